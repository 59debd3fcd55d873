section
def mX6_addChannel (k0 : Nat) (a1 : Int32) (h : xw_M) : Option (xw_M × Int32) := xo_let (xw_st h k0 0 (0 : Int32)) fun h1 => (mX6_isFrom a1 (1 : Int32) (4 : Int32) h1).bind fun r2 => (if r2.2 = 0 then (mX6_no k0 (1 : Int32) r2.1).bind fun r6 => some (r6.1, r6.2) else (if (r2.1 k0 1) = (4 : Int32) then (mX6_no k0 (2 : Int32) r2.1).bind fun r5 => some (r5.1, r5.2) else if xo_ix ((164 : Int32) + (r2.1 k0 1)) 204 = true then (xo_let (xw_st r2.1 (k0 + 5) (Int32.toNatClampNeg ((164 : Int32) + (r2.1 k0 1))) a1) fun h3 => xo_let (xw_st h3 k0 1 ((h3 k0 1) + (1 : Int32))) fun h4 => some (h4, ((h4 k0 1) - (1 : Int32)))) else none))
set_option maxHeartbeats 4000000 in
set_option maxRecDepth 100000 in
theorem mcX6_addChannel (l : Launch) (G : xw_G) {k0 : Nat} {a1 : Int32} (hk0 : xw_kd k0 = 6) {h : xw_M} {q : xw_M × Int32} (hR : mX6_addChannel k0 a1 h = some q) : xc_M l G yX6_addChannel cX6_addChannel 2 (some .int) 1 22 [.ref (xg_ad G k0), .int a1] h q.1 (some (.int q.2)) := by
  refine xc_of (by decide +kernel) rfl (Nat.le_of_ble_eq_true rfl) ?_
  intro p e s m args below meth c C hr
  have C : xj_C p s m args meth c G RX6 cX6_addChannel 2 := C
  show xj_X p l e { frames := 1, cells := 0, slots := 0, locals := 22 } s m args below meth c G 2 0 0 (MQ below (xw_Q G (some (.int q.2)) q.1) args s 0 0 (xg_A G)) h [some (.ref (xg_ad G k0)), some (.int a1)] 0 []
  unfold mX6_addChannel at hR
  refine xr_aload_n C dX6_addChannel_0 rfl ?_
  refine xr_iconst (v := 0) C dX6_addChannel_1 (by decide) ?_
  refine xr_putL C hk0 fl_RX6_28 pf_6_0 dX6_addChannel_2 hR (fun h1 hR => ?_)
  refine xr_iload_n C dX6_addChannel_5 rfl ?_
  refine xr_iconst (v := 1) C dX6_addChannel_6 (by decide) ?_
  refine xr_iconst (v := 4) C dX6_addChannel_7 (by decide) ?_
  refine xr_callSi C (st := []) [.int a1, .int (1 : Int32), .int (4 : Int32)] cs_RX6_35 (fun _ zz9 => mcX6_isFrom l G  zz9) rfl ⟨Nat.le_of_ble_eq_true rfl, Nat.le_of_ble_eq_true rfl⟩ (Nat.le_of_ble_eq_true rfl) ⟨Nat.zero_le _, Nat.zero_le _⟩ rfl dX6_addChannel_8 hR (fun r2 hr2 hR => ?_)
  refine xr_if_ne (tgt := 20) C dX6_addChannel_11 (by decide) hR (fun hR => ?_) (fun hR => ?_)
  · refine xr_aload_n C dX6_addChannel_20 rfl ?_
    refine xr_get C hk0 fl_RX6_32 rfl dX6_addChannel_21 ?_
    refine xr_iconst (v := 4) C dX6_addChannel_24 (by decide) ?_
    refine xr_icmp_ne (tgt := 34) C dX6_addChannel_25 (by decide) hR (fun hR => ?_) (fun hR => ?_)
    · refine xr_aload_n C dX6_addChannel_34 rfl ?_
      refine xr_get C hk0 fl_RX6_22 rfl dX6_addChannel_35 ?_
      refine xr_sipush (v := 164) C dX6_addChannel_38 (by decide) ?_
      refine xr_aload_n C dX6_addChannel_41 rfl ?_
      refine xr_get C hk0 fl_RX6_32 rfl dX6_addChannel_42 ?_
      refine xr_iadd C dX6_addChannel_45 ?_
      refine xr_iload_n C dX6_addChannel_46 rfl ?_
      refine xr_iastL C (kp_6_7 hk0) (xj_ltN C (kp_6_7 hk0) (by decide)) rfl dX6_addChannel_47 hR (fun h3 hR => ?_)
      refine xr_aload_n C dX6_addChannel_48 rfl ?_
      refine xr_dup C dX6_addChannel_49 rfl ?_
      refine xr_get C hk0 fl_RX6_32 rfl dX6_addChannel_50 ?_
      refine xr_iconst (v := 1) C dX6_addChannel_53 (by decide) ?_
      refine xr_iadd C dX6_addChannel_54 ?_
      refine xr_putL C hk0 fl_RX6_32 pf_6_1 dX6_addChannel_55 hR (fun h4 hR => ?_)
      refine xr_aload_n C dX6_addChannel_58 rfl ?_
      refine xr_get C hk0 fl_RX6_32 rfl dX6_addChannel_59 ?_
      refine xr_iconst (v := 1) C dX6_addChannel_62 (by decide) ?_
      refine xr_isub C dX6_addChannel_63 ?_
      exact xr_iret C hr dX6_addChannel_64 hR
    · refine xr_aload_n C dX6_addChannel_28 rfl ?_
      refine xr_iconst (v := 2) C dX6_addChannel_29 (by decide) ?_
      refine xr_callVi C (st := []) [.int (2 : Int32)] cv_RX6_79 hk0 (fun _ zz9 => mcX6_no l G hk0 zz9) rfl ⟨Nat.le_of_ble_eq_true rfl, Nat.le_of_ble_eq_true rfl⟩ (Nat.le_of_ble_eq_true rfl) ⟨Nat.zero_le _, Nat.zero_le _⟩ rfl dX6_addChannel_30 hR (fun r5 hr5 hR => ?_)
      exact xr_iret C hr dX6_addChannel_33 hR
  · refine xr_aload_n C dX6_addChannel_14 rfl ?_
    refine xr_iconst (v := 1) C dX6_addChannel_15 (by decide) ?_
    refine xr_callVi C (st := []) [.int (1 : Int32)] cv_RX6_79 hk0 (fun _ zz9 => mcX6_no l G hk0 zz9) rfl ⟨Nat.le_of_ble_eq_true rfl, Nat.le_of_ble_eq_true rfl⟩ (Nat.le_of_ble_eq_true rfl) ⟨Nat.zero_le _, Nat.zero_le _⟩ rfl dX6_addChannel_16 hR (fun r6 hr6 hR => ?_)
    exact xr_iret C hr dX6_addChannel_19 hR
end
section
def mX6_addFiber (k0 : Nat) (h : xw_M) : Option (xw_M × Int32) := xo_let (xw_st h k0 0 (0 : Int32)) fun h1 => (if (h1 k0 2) = (8 : Int32) then (mX6_no k0 (1 : Int32) h1).bind fun r4 => some (r4.1, r4.2) else if xo_ix ((12 : Int32) + (h1 k0 2)) 204 = true then (xo_let (xw_st h1 (k0 + 5) (Int32.toNatClampNeg ((12 : Int32) + (h1 k0 2))) (5 : Int32)) fun h2 => xo_let (xw_st h2 k0 2 ((h2 k0 2) + (1 : Int32))) fun h3 => some (h3, ((h3 k0 2) - (1 : Int32)))) else none)
set_option maxHeartbeats 4000000 in
set_option maxRecDepth 100000 in
theorem mcX6_addFiber (l : Launch) (G : xw_G) {k0 : Nat} (hk0 : xw_kd k0 = 6) {h : xw_M} {q : xw_M × Int32} (hR : mX6_addFiber k0 h = some q) : xc_M l G yX6_addFiber cX6_addFiber 1 (some .int) 1 21 [.ref (xg_ad G k0)] h q.1 (some (.int q.2)) := by
  refine xc_of (by decide +kernel) rfl (Nat.le_of_ble_eq_true rfl) ?_
  intro p e s m args below meth c C hr
  have C : xj_C p s m args meth c G RX6 cX6_addFiber 1 := C
  show xj_X p l e { frames := 1, cells := 0, slots := 0, locals := 21 } s m args below meth c G 1 0 0 (MQ below (xw_Q G (some (.int q.2)) q.1) args s 0 0 (xg_A G)) h [some (.ref (xg_ad G k0))] 0 []
  unfold mX6_addFiber at hR
  refine xr_aload_n C dX6_addFiber_0 rfl ?_
  refine xr_iconst (v := 0) C dX6_addFiber_1 (by decide) ?_
  refine xr_putL C hk0 fl_RX6_28 pf_6_0 dX6_addFiber_2 hR (fun h1 hR => ?_)
  refine xr_aload_n C dX6_addFiber_5 rfl ?_
  refine xr_get C hk0 fl_RX6_39 rfl dX6_addFiber_6 ?_
  refine xr_bipush (v := 8) C dX6_addFiber_9 (by decide) ?_
  refine xr_icmp_ne (tgt := 20) C dX6_addFiber_11 (by decide) hR (fun hR => ?_) (fun hR => ?_)
  · refine xr_aload_n C dX6_addFiber_20 rfl ?_
    refine xr_get C hk0 fl_RX6_22 rfl dX6_addFiber_21 ?_
    refine xr_bipush (v := 12) C dX6_addFiber_24 (by decide) ?_
    refine xr_aload_n C dX6_addFiber_26 rfl ?_
    refine xr_get C hk0 fl_RX6_39 rfl dX6_addFiber_27 ?_
    refine xr_iadd C dX6_addFiber_30 ?_
    refine xr_iconst (v := 5) C dX6_addFiber_31 (by decide) ?_
    refine xr_iastL C (kp_6_7 hk0) (xj_ltN C (kp_6_7 hk0) (by decide)) rfl dX6_addFiber_32 hR (fun h2 hR => ?_)
    refine xr_aload_n C dX6_addFiber_33 rfl ?_
    refine xr_dup C dX6_addFiber_34 rfl ?_
    refine xr_get C hk0 fl_RX6_39 rfl dX6_addFiber_35 ?_
    refine xr_iconst (v := 1) C dX6_addFiber_38 (by decide) ?_
    refine xr_iadd C dX6_addFiber_39 ?_
    refine xr_putL C hk0 fl_RX6_39 pf_6_2 dX6_addFiber_40 hR (fun h3 hR => ?_)
    refine xr_aload_n C dX6_addFiber_43 rfl ?_
    refine xr_get C hk0 fl_RX6_39 rfl dX6_addFiber_44 ?_
    refine xr_iconst (v := 1) C dX6_addFiber_47 (by decide) ?_
    refine xr_isub C dX6_addFiber_48 ?_
    exact xr_iret C hr dX6_addFiber_49 hR
  · refine xr_aload_n C dX6_addFiber_14 rfl ?_
    refine xr_iconst (v := 1) C dX6_addFiber_15 (by decide) ?_
    refine xr_callVi C (st := []) [.int (1 : Int32)] cv_RX6_79 hk0 (fun _ zz9 => mcX6_no l G hk0 zz9) rfl ⟨Nat.le_of_ble_eq_true rfl, Nat.le_of_ble_eq_true rfl⟩ (Nat.le_of_ble_eq_true rfl) ⟨Nat.zero_le _, Nat.zero_le _⟩ rfl dX6_addFiber_16 hR (fun r4 hr4 hR => ?_)
    exact xr_iret C hr dX6_addFiber_19 hR
end
section
def mX6_isStep_b72  (k0 : Nat) (a3 : Int32) (h : xw_M)  : Option (xw_M × Int32) := (mX6_isChannel k0 a3 h).bind fun r4 => (if r4.2 = 0 ∨ r4.2 = 1 then some (r4.1, r4.2) else none)
def mX6_isStep_b136  (a2 : Int32) (h : xw_M)  : Option (xw_M × Int32) := (if a2 = (3 : Int32) then some (h, (1 : Int32)) else some (h, (0 : Int32)))
def mX6_isStep (k0 : Nat) (a1 : Int32) (a2 : Int32) (a3 : Int32) (a4 : Int32) (h : xw_M) : Option (xw_M × Int32) := (if a2 = (0 : Int32) then (mX6_isChannel k0 a3 h).bind fun r1 => (if r1.2 = 0 then some (r1.1, (0 : Int32)) else (mX6_isFrom a4 (-999 : Int32) (999 : Int32) r1.1).bind fun r2 => (if r2.2 = 0 then some (r2.1, (0 : Int32)) else some (r2.1, (1 : Int32)))) else (if a2 = (1 : Int32) then mX6_isStep_b72  (k0) (a3) h  else (if a2 = (2 : Int32) then (mX6_isFrom a3 (1 : Int32) (20 : Int32) h).bind fun r6 => (if r6.2 = 0 ∨ r6.2 = 1 then some (r6.1, r6.2) else none) else (if a2 = (3 : Int32) then mX6_isStep_b136  (a2) h  else (if a2 = (4 : Int32) then (mX6_isFiber k0 a3 h).bind fun r9 => (if r9.2 = 0 then some (r9.1, (0 : Int32)) else (if a3 = a1 then some (r9.1, (0 : Int32)) else some (r9.1, (1 : Int32)))) else (if a2 = (5 : Int32) then if xo_ix a1 8 = true then (mX6_isFrom a3 (0 : Int32) (h (k0 + 1) (Int32.toNatClampNeg a1)) h).bind fun r11 => (if r11.2 = 0 then some (r11.1, (0 : Int32)) else (mX6_isFrom a4 (1 : Int32) (9 : Int32) r11.1).bind fun r12 => (if r12.2 = 0 then some (r12.1, (0 : Int32)) else some (r12.1, (1 : Int32)))) else none else (if a2 = (6 : Int32) then mX6_isStep_b72  (k0) (a3) h  else mX6_isStep_b136  (a2) h )))))))
set_option maxHeartbeats 4000000 in
set_option maxRecDepth 100000 in
theorem mbX6_isStep_b72 {p : Program} {l : Launch} {e : Env} {s : State} {m : MethodId} {args : Array Value} {below : List Frame} {meth : Method} {c : Code} {G : xw_G} (C : xj_C p s m args meth c G RX6 cX6_isStep 5) (hr : meth.sig.returnType = (some .boolean)) {q : xw_M × Int32} {k0 : Nat} {a3 : Int32}  (hk0 : xw_kd k0 = 6) {h : xw_M}   (hR : mX6_isStep_b72  k0 a3 h  = some q) : xj_X p l e { frames := 2, cells := 0, slots := 0, locals := 43 } s m args below meth c G 5 0 0 (MQ below (xw_Q G (some (.int q.2)) q.1) args s 0 0 (xg_A G)) h [some (.ref (xg_ad G k0)), none, none, some (.int a3), none] 72 [] := by
  unfold mX6_isStep_b72 at hR
  refine xr_aload_n C dX6_isStep_72 rfl ?_
  refine xr_iload_n C dX6_isStep_73 rfl ?_
  refine xr_callVi C (st := []) [.int a3] cv_RX6_82 hk0 (fun _ zz9 => mcX6_isChannel l G hk0 zz9) rfl ⟨Nat.le_of_ble_eq_true rfl, Nat.le_of_ble_eq_true rfl⟩ (Nat.le_of_ble_eq_true rfl) ⟨Nat.zero_le _, Nat.zero_le _⟩ rfl dX6_isStep_74 hR (fun r4 hr4 hR => ?_)
  exact xr_zretG C hr dX6_isStep_77 hR
set_option maxHeartbeats 4000000 in
set_option maxRecDepth 100000 in
theorem mbX6_isStep_b136 {p : Program} {l : Launch} {e : Env} {s : State} {m : MethodId} {args : Array Value} {below : List Frame} {meth : Method} {c : Code} {G : xw_G} (C : xj_C p s m args meth c G RX6 cX6_isStep 5) (hr : meth.sig.returnType = (some .boolean)) {q : xw_M × Int32} {a2 : Int32}   {h : xw_M}   (hR : mX6_isStep_b136  a2 h  = some q) : xj_X p l e { frames := 2, cells := 0, slots := 0, locals := 43 } s m args below meth c G 5 0 0 (MQ below (xw_Q G (some (.int q.2)) q.1) args s 0 0 (xg_A G)) h [none, none, some (.int a2), none, none] 136 [] := by
  unfold mX6_isStep_b136 at hR
  refine xr_iload_n C dX6_isStep_136 rfl ?_
  refine xr_iconst (v := 3) C dX6_isStep_137 (by decide) ?_
  refine xr_icmp_ne (tgt := 145) C dX6_isStep_138 (by decide) hR (fun hR => ?_) (fun hR => ?_)
  · refine xr_iconst (v := 0) C dX6_isStep_145 (by decide) ?_
    exact xr_zret C hr (Or.inl rfl) dX6_isStep_146 hR
  · refine xr_iconst (v := 1) C dX6_isStep_141 (by decide) ?_
    refine xr_goto (tgt := 146) C dX6_isStep_142 (by decide) ?_
    exact xr_zret C hr (Or.inr rfl) dX6_isStep_146 hR
set_option maxHeartbeats 4000000 in
set_option maxRecDepth 100000 in
theorem mcX6_isStep (l : Launch) (G : xw_G) {k0 : Nat} {a1 : Int32} {a2 : Int32} {a3 : Int32} {a4 : Int32} (hk0 : xw_kd k0 = 6) {h : xw_M} {q : xw_M × Int32} (hR : mX6_isStep k0 a1 a2 a3 a4 h = some q) : xc_M l G yX6_isStep cX6_isStep 5 (some .boolean) 2 43 [.ref (xg_ad G k0), .int a1, .int a2, .int a3, .int a4] h q.1 (some (.int q.2)) := by
  refine xc_of (by decide +kernel) rfl (Nat.le_of_ble_eq_true rfl) ?_
  intro p e s m args below meth c C hr
  have C : xj_C p s m args meth c G RX6 cX6_isStep 5 := C
  show xj_X p l e { frames := 2, cells := 0, slots := 0, locals := 43 } s m args below meth c G 5 0 0 (MQ below (xw_Q G (some (.int q.2)) q.1) args s 0 0 (xg_A G)) h [some (.ref (xg_ad G k0)), some (.int a1), some (.int a2), some (.int a3), some (.int a4)] 0 []
  unfold mX6_isStep at hR
  refine xr_iload_n C dX6_isStep_0 rfl ?_
  refine xo_if hR (fun hx3 hR => ?_) (fun hx3 hR => ?_)
  · refine xr_tabIn (off := 43) (tgt := 44) C dX6_isStep_1 (by rw [hx3]; decide) (by rw [hx3]; decide) (by rw [hx3]; decide) (by decide) ?_
    refine xr_aload_n C dX6_isStep_44 rfl ?_
    refine xr_iload_n C dX6_isStep_45 rfl ?_
    refine xr_callVi C (st := []) [.int a3] cv_RX6_82 hk0 (fun _ zz9 => mcX6_isChannel l G hk0 zz9) rfl ⟨Nat.le_of_ble_eq_true rfl, Nat.le_of_ble_eq_true rfl⟩ (Nat.le_of_ble_eq_true rfl) ⟨Nat.zero_le _, Nat.zero_le _⟩ rfl dX6_isStep_46 hR (fun r1 hr1 hR => ?_)
    refine xr_if_eq (tgt := 70) C dX6_isStep_49 (by decide) hR (fun hR => ?_) (fun hR => ?_)
    · refine xr_iconst (v := 0) C dX6_isStep_70 (by decide) ?_
      exact xr_zret C hr (Or.inl rfl) dX6_isStep_71 hR
    · refine xr_iload C dX6_isStep_52 rfl ?_
      refine xr_sipush (v := (-999)) C dX6_isStep_54 (by decide) ?_
      refine xr_sipush (v := 999) C dX6_isStep_57 (by decide) ?_
      refine xr_callSi C (st := []) [.int a4, .int (-999 : Int32), .int (999 : Int32)] cs_RX6_35 (fun _ zz9 => mcX6_isFrom l G  zz9) rfl ⟨Nat.le_of_ble_eq_true rfl, Nat.le_of_ble_eq_true rfl⟩ (Nat.le_of_ble_eq_true rfl) ⟨Nat.zero_le _, Nat.zero_le _⟩ rfl dX6_isStep_60 hR (fun r2 hr2 hR => ?_)
      refine xr_if_eq (tgt := 70) C dX6_isStep_63 (by decide) hR (fun hR => ?_) (fun hR => ?_)
      · refine xr_iconst (v := 0) C dX6_isStep_70 (by decide) ?_
        exact xr_zret C hr (Or.inl rfl) dX6_isStep_71 hR
      · refine xr_iconst (v := 1) C dX6_isStep_66 (by decide) ?_
        refine xr_goto (tgt := 71) C dX6_isStep_67 (by decide) ?_
        exact xr_zret C hr (Or.inr rfl) dX6_isStep_71 hR
  · have hx3n := hx3
    refine xo_if hR (fun hx5 hR => ?_) (fun hx5 hR => ?_)
    · refine xr_tabIn (off := 71) (tgt := 72) C dX6_isStep_1 (by rw [hx5]; decide) (by rw [hx5]; decide) (by rw [hx5]; decide) (by decide) ?_
      exact xr_sub (lv9 := [some (.ref (xg_ad G k0)), none, none, some (.int a3), none]) (And.intro rfl (And.intro rfl trivial)) (mbX6_isStep_b72 C hr  hk0  hR)
    · have hx5n := hx5
      refine xo_if hR (fun hx7 hR => ?_) (fun hx7 hR => ?_)
      · refine xr_tabIn (off := 77) (tgt := 78) C dX6_isStep_1 (by rw [hx7]; decide) (by rw [hx7]; decide) (by rw [hx7]; decide) (by decide) ?_
        refine xr_iload_n C dX6_isStep_78 rfl ?_
        refine xr_iconst (v := 1) C dX6_isStep_79 (by decide) ?_
        refine xr_bipush (v := 20) C dX6_isStep_80 (by decide) ?_
        refine xr_callSi C (st := []) [.int a3, .int (1 : Int32), .int (20 : Int32)] cs_RX6_35 (fun _ zz9 => mcX6_isFrom l G  zz9) rfl ⟨Nat.le_of_ble_eq_true rfl, Nat.le_of_ble_eq_true rfl⟩ (Nat.le_of_ble_eq_true rfl) ⟨Nat.zero_le _, Nat.zero_le _⟩ rfl dX6_isStep_82 hR (fun r6 hr6 hR => ?_)
        exact xr_zretG C hr dX6_isStep_85 hR
      · have hx7n := hx7
        refine xo_if hR (fun hx8 hR => ?_) (fun hx8 hR => ?_)
        · refine xr_tabIn (off := 135) (tgt := 136) C dX6_isStep_1 (by rw [hx8]; decide) (by rw [hx8]; decide) (by rw [hx8]; decide) (by decide) ?_
          exact xr_sub (lv9 := [none, none, some (.int a2), none, none]) (And.intro rfl trivial) (mbX6_isStep_b136 C hr    hR)
        · have hx8n := hx8
          refine xo_if hR (fun hx10 hR => ?_) (fun hx10 hR => ?_)
          · refine xr_tabIn (off := 85) (tgt := 86) C dX6_isStep_1 (by rw [hx10]; decide) (by rw [hx10]; decide) (by rw [hx10]; decide) (by decide) ?_
            refine xr_aload_n C dX6_isStep_86 rfl ?_
            refine xr_iload_n C dX6_isStep_87 rfl ?_
            refine xr_callVi C (st := []) [.int a3] cv_RX6_85 hk0 (fun _ zz9 => mcX6_isFiber l G hk0 zz9) rfl ⟨Nat.le_of_ble_eq_true rfl, Nat.le_of_ble_eq_true rfl⟩ (Nat.le_of_ble_eq_true rfl) ⟨Nat.zero_le _, Nat.zero_le _⟩ rfl dX6_isStep_88 hR (fun r9 hr9 hR => ?_)
            refine xr_if_eq (tgt := 103) C dX6_isStep_91 (by decide) hR (fun hR => ?_) (fun hR => ?_)
            · refine xr_iconst (v := 0) C dX6_isStep_103 (by decide) ?_
              exact xr_zret C hr (Or.inl rfl) dX6_isStep_104 hR
            · refine xr_iload_n C dX6_isStep_94 rfl ?_
              refine xr_iload_n C dX6_isStep_95 rfl ?_
              refine xr_icmp_eq (tgt := 103) C dX6_isStep_96 (by decide) hR (fun hR => ?_) (fun hR => ?_)
              · refine xr_iconst (v := 0) C dX6_isStep_103 (by decide) ?_
                exact xr_zret C hr (Or.inl rfl) dX6_isStep_104 hR
              · refine xr_iconst (v := 1) C dX6_isStep_99 (by decide) ?_
                refine xr_goto (tgt := 104) C dX6_isStep_100 (by decide) ?_
                exact xr_zret C hr (Or.inr rfl) dX6_isStep_104 hR
          · have hx10n := hx10
            refine xo_if hR (fun hx13 hR => ?_) (fun hx13 hR => ?_)
            · refine xr_tabIn (off := 104) (tgt := 105) C dX6_isStep_1 (by rw [hx13]; decide) (by rw [hx13]; decide) (by rw [hx13]; decide) (by decide) ?_
              refine xr_iload_n C dX6_isStep_105 rfl ?_
              refine xr_iconst (v := 0) C dX6_isStep_106 (by decide) ?_
              refine xr_aload_n C dX6_isStep_107 rfl ?_
              refine xr_get C hk0 fl_RX6_9 rfl dX6_isStep_108 ?_
              refine xr_iload_n C dX6_isStep_111 rfl ?_
              refine xr_iald C (kp_6_3 hk0) (xj_ltN C (kp_6_3 hk0) (by decide)) rfl dX6_isStep_112 hR (fun hR => ?_)
              refine xr_callSi C (st := []) [.int a3, .int (0 : Int32), .int (h (k0 + 1) (Int32.toNatClampNeg a1))] cs_RX6_35 (fun _ zz9 => mcX6_isFrom l G  zz9) rfl ⟨Nat.le_of_ble_eq_true rfl, Nat.le_of_ble_eq_true rfl⟩ (Nat.le_of_ble_eq_true rfl) ⟨Nat.zero_le _, Nat.zero_le _⟩ rfl dX6_isStep_113 hR (fun r11 hr11 hR => ?_)
              refine xr_if_eq (tgt := 134) C dX6_isStep_116 (by decide) hR (fun hR => ?_) (fun hR => ?_)
              · refine xr_iconst (v := 0) C dX6_isStep_134 (by decide) ?_
                exact xr_zret C hr (Or.inl rfl) dX6_isStep_135 hR
              · refine xr_iload C dX6_isStep_119 rfl ?_
                refine xr_iconst (v := 1) C dX6_isStep_121 (by decide) ?_
                refine xr_bipush (v := 9) C dX6_isStep_122 (by decide) ?_
                refine xr_callSi C (st := []) [.int a4, .int (1 : Int32), .int (9 : Int32)] cs_RX6_35 (fun _ zz9 => mcX6_isFrom l G  zz9) rfl ⟨Nat.le_of_ble_eq_true rfl, Nat.le_of_ble_eq_true rfl⟩ (Nat.le_of_ble_eq_true rfl) ⟨Nat.zero_le _, Nat.zero_le _⟩ rfl dX6_isStep_124 hR (fun r12 hr12 hR => ?_)
                refine xr_if_eq (tgt := 134) C dX6_isStep_127 (by decide) hR (fun hR => ?_) (fun hR => ?_)
                · refine xr_iconst (v := 0) C dX6_isStep_134 (by decide) ?_
                  exact xr_zret C hr (Or.inl rfl) dX6_isStep_135 hR
                · refine xr_iconst (v := 1) C dX6_isStep_130 (by decide) ?_
                  refine xr_goto (tgt := 135) C dX6_isStep_131 (by decide) ?_
                  exact xr_zret C hr (Or.inr rfl) dX6_isStep_135 hR
            · have hx13n := hx13
              refine xo_if hR (fun hx14 hR => ?_) (fun hx14 hR => ?_)
              · refine xr_tabIn (off := 71) (tgt := 72) C dX6_isStep_1 (by rw [hx14]; decide) (by rw [hx14]; decide) (by rw [hx14]; decide) (by decide) ?_
                exact xr_sub (lv9 := [some (.ref (xg_ad G k0)), none, none, some (.int a3), none]) (And.intro rfl (And.intro rfl trivial)) (mbX6_isStep_b72 C hr  hk0  hR)
              · have hx14n := hx14
                refine xr_tabOut (tgt := 136) C dX6_isStep_1 (xo_tab7 hx3n hx5n hx7n hx8n hx10n hx13n hx14n) (by decide) ?_
                exact xr_sub (lv9 := [none, none, some (.int a2), none, none]) (And.intro rfl trivial) (mbX6_isStep_b136 C hr    hR)
end
section
def mX6_addStep (k0 : Nat) (a1 : Int32) (a2 : Int32) (a3 : Int32) (a4 : Int32) (h : xw_M) : Option (xw_M × Int32) := xo_let (xw_st h k0 0 (0 : Int32)) fun h1 => (mX6_isFiber k0 a1 h1).bind fun r2 => (if r2.2 = 0 then (mX6_no k0 (1 : Int32) r2.1).bind fun r11 => some (r11.1, r11.2) else (mX6_isStep k0 a1 a2 a3 a4 r2.1).bind fun r3 => (if r3.2 = 0 then (mX6_no k0 (2 : Int32) r3.1).bind fun r10 => some (r10.1, r10.2) else if xo_ix a1 8 = true then (if (r3.1 (k0 + 1) (Int32.toNatClampNeg a1)) = (12 : Int32) then (mX6_no k0 (3 : Int32) r3.1).bind fun r9 => some (r9.1, r9.2) else if xo_ix a1 8 = true then if xo_ix (((12 : Int32) * a1) + (r3.1 (k0 + 1) (Int32.toNatClampNeg a1))) 96 = true then (xo_let (xw_st r3.1 (k0 + 2) (Int32.toNatClampNeg (((12 : Int32) * a1) + (r3.1 (k0 + 1) (Int32.toNatClampNeg a1)))) a2) fun h4 => if xo_ix (((12 : Int32) * a1) + (r3.1 (k0 + 1) (Int32.toNatClampNeg a1))) 96 = true then (xo_let (xw_st h4 (k0 + 3) (Int32.toNatClampNeg (((12 : Int32) * a1) + (r3.1 (k0 + 1) (Int32.toNatClampNeg a1)))) a3) fun h5 => if xo_ix (((12 : Int32) * a1) + (r3.1 (k0 + 1) (Int32.toNatClampNeg a1))) 96 = true then (xo_let (xw_st h5 (k0 + 4) (Int32.toNatClampNeg (((12 : Int32) * a1) + (r3.1 (k0 + 1) (Int32.toNatClampNeg a1)))) a4) fun h6 => if xo_ix a1 8 = true then if xo_ix a1 8 = true then (xo_let (xw_st h6 (k0 + 1) (Int32.toNatClampNeg a1) ((h6 (k0 + 1) (Int32.toNatClampNeg a1)) + (1 : Int32))) fun h7 => if xo_ix ((12 : Int32) + a1) 204 = true then (if (h7 (k0 + 5) (Int32.toNatClampNeg ((12 : Int32) + a1))) = (5 : Int32) then (mX6_ready k0 a1 h7).bind fun r8 => if xo_ix a1 8 = true then some (r8.1, ((r8.1 (k0 + 1) (Int32.toNatClampNeg a1)) - (1 : Int32))) else none else if xo_ix a1 8 = true then some (h7, ((h7 (k0 + 1) (Int32.toNatClampNeg a1)) - (1 : Int32))) else none) else none) else none else none) else none) else none) else none else none) else none))
set_option maxHeartbeats 4000000 in
set_option maxRecDepth 100000 in
theorem mcX6_addStep (l : Launch) (G : xw_G) {k0 : Nat} {a1 : Int32} {a2 : Int32} {a3 : Int32} {a4 : Int32} (hk0 : xw_kd k0 = 6) {h : xw_M} {q : xw_M × Int32} (hR : mX6_addStep k0 a1 a2 a3 a4 h = some q) : xc_M l G yX6_addStep cX6_addStep 6 (some .int) 3 67 [.ref (xg_ad G k0), .int a1, .int a2, .int a3, .int a4] h q.1 (some (.int q.2)) := by
  refine xc_of (by decide +kernel) rfl (Nat.le_of_ble_eq_true rfl) ?_
  intro p e s m args below meth c C hr
  have C : xj_C p s m args meth c G RX6 cX6_addStep 6 := C
  show xj_X p l e { frames := 3, cells := 0, slots := 0, locals := 67 } s m args below meth c G 6 0 0 (MQ below (xw_Q G (some (.int q.2)) q.1) args s 0 0 (xg_A G)) h [some (.ref (xg_ad G k0)), some (.int a1), some (.int a2), some (.int a3), some (.int a4), none] 0 []
  unfold mX6_addStep at hR
  refine xr_aload_n C dX6_addStep_0 rfl ?_
  refine xr_iconst (v := 0) C dX6_addStep_1 (by decide) ?_
  refine xr_putL C hk0 fl_RX6_28 pf_6_0 dX6_addStep_2 hR (fun h1 hR => ?_)
  refine xr_aload_n C dX6_addStep_5 rfl ?_
  refine xr_iload_n C dX6_addStep_6 rfl ?_
  refine xr_callVi C (st := []) [.int a1] cv_RX6_85 hk0 (fun _ zz9 => mcX6_isFiber l G hk0 zz9) rfl ⟨Nat.le_of_ble_eq_true rfl, Nat.le_of_ble_eq_true rfl⟩ (Nat.le_of_ble_eq_true rfl) ⟨Nat.zero_le _, Nat.zero_le _⟩ rfl dX6_addStep_7 hR (fun r2 hr2 hR => ?_)
  refine xr_if_ne (tgt := 19) C dX6_addStep_10 (by decide) hR (fun hR => ?_) (fun hR => ?_)
  · refine xr_aload_n C dX6_addStep_19 rfl ?_
    refine xr_iload_n C dX6_addStep_20 rfl ?_
    refine xr_iload_n C dX6_addStep_21 rfl ?_
    refine xr_iload_n C dX6_addStep_22 rfl ?_
    refine xr_iload C dX6_addStep_23 rfl ?_
    refine xr_callVi C (st := []) [.int a1, .int a2, .int a3, .int a4] cv_RX6_88 hk0 (fun _ zz9 => mcX6_isStep l G hk0 zz9) rfl ⟨Nat.le_of_ble_eq_true rfl, Nat.le_of_ble_eq_true rfl⟩ (Nat.le_of_ble_eq_true rfl) ⟨Nat.zero_le _, Nat.zero_le _⟩ rfl dX6_addStep_25 hR (fun r3 hr3 hR => ?_)
    refine xr_if_ne (tgt := 37) C dX6_addStep_28 (by decide) hR (fun hR => ?_) (fun hR => ?_)
    · refine xr_aload_n C dX6_addStep_37 rfl ?_
      refine xr_get C hk0 fl_RX6_9 rfl dX6_addStep_38 ?_
      refine xr_iload_n C dX6_addStep_41 rfl ?_
      refine xr_iald C (kp_6_3 hk0) (xj_ltN C (kp_6_3 hk0) (by decide)) rfl dX6_addStep_42 hR (fun hR => ?_)
      refine xr_bipush (v := 12) C dX6_addStep_43 (by decide) ?_
      refine xr_icmp_ne (tgt := 54) C dX6_addStep_45 (by decide) hR (fun hR => ?_) (fun hR => ?_)
      · refine xr_bipush (v := 12) C dX6_addStep_54 (by decide) ?_
        refine xr_iload_n C dX6_addStep_56 rfl ?_
        refine xr_imul C dX6_addStep_57 ?_
        refine xr_aload_n C dX6_addStep_58 rfl ?_
        refine xr_get C hk0 fl_RX6_9 rfl dX6_addStep_59 ?_
        refine xr_iload_n C dX6_addStep_62 rfl ?_
        refine xr_iald C (kp_6_3 hk0) (xj_ltN C (kp_6_3 hk0) (by decide)) rfl dX6_addStep_63 hR (fun hR => ?_)
        refine xr_iadd C dX6_addStep_64 ?_
        refine xr_istore C dX6_addStep_65 rfl (by decide) ?_
        refine xr_aload_n C dX6_addStep_67 rfl ?_
        refine xr_get C hk0 fl_RX6_13 rfl dX6_addStep_68 ?_
        refine xr_iload C dX6_addStep_71 rfl ?_
        refine xr_iload_n C dX6_addStep_73 rfl ?_
        refine xr_iastL C (kp_6_4 hk0) (xj_ltN C (kp_6_4 hk0) (by decide)) rfl dX6_addStep_74 hR (fun h4 hR => ?_)
        refine xr_aload_n C dX6_addStep_75 rfl ?_
        refine xr_get C hk0 fl_RX6_16 rfl dX6_addStep_76 ?_
        refine xr_iload C dX6_addStep_79 rfl ?_
        refine xr_iload_n C dX6_addStep_81 rfl ?_
        refine xr_iastL C (kp_6_5 hk0) (xj_ltN C (kp_6_5 hk0) (by decide)) rfl dX6_addStep_82 hR (fun h5 hR => ?_)
        refine xr_aload_n C dX6_addStep_83 rfl ?_
        refine xr_get C hk0 fl_RX6_19 rfl dX6_addStep_84 ?_
        refine xr_iload C dX6_addStep_87 rfl ?_
        refine xr_iload C dX6_addStep_89 rfl ?_
        refine xr_iastL C (kp_6_6 hk0) (xj_ltN C (kp_6_6 hk0) (by decide)) rfl dX6_addStep_91 hR (fun h6 hR => ?_)
        refine xr_aload_n C dX6_addStep_92 rfl ?_
        refine xr_get C hk0 fl_RX6_9 rfl dX6_addStep_93 ?_
        refine xr_iload_n C dX6_addStep_96 rfl ?_
        refine xr_dup2 C dX6_addStep_97 rfl rfl ?_
        refine xr_iald C (kp_6_3 hk0) (xj_ltN C (kp_6_3 hk0) (by decide)) rfl dX6_addStep_98 hR (fun hR => ?_)
        refine xr_iconst (v := 1) C dX6_addStep_99 (by decide) ?_
        refine xr_iadd C dX6_addStep_100 ?_
        refine xr_iastL C (kp_6_3 hk0) (xj_ltN C (kp_6_3 hk0) (by decide)) rfl dX6_addStep_101 hR (fun h7 hR => ?_)
        refine xr_aload_n C dX6_addStep_102 rfl ?_
        refine xr_get C hk0 fl_RX6_22 rfl dX6_addStep_103 ?_
        refine xr_bipush (v := 12) C dX6_addStep_106 (by decide) ?_
        refine xr_iload_n C dX6_addStep_108 rfl ?_
        refine xr_iadd C dX6_addStep_109 ?_
        refine xr_iald C (kp_6_7 hk0) (xj_ltN C (kp_6_7 hk0) (by decide)) rfl dX6_addStep_110 hR (fun hR => ?_)
        refine xr_iconst (v := 5) C dX6_addStep_111 (by decide) ?_
        refine xr_icmp_ne (tgt := 120) C dX6_addStep_112 (by decide) hR (fun hR => ?_) (fun hR => ?_)
        · refine xr_aload_n C dX6_addStep_120 rfl ?_
          refine xr_get C hk0 fl_RX6_9 rfl dX6_addStep_121 ?_
          refine xr_iload_n C dX6_addStep_124 rfl ?_
          refine xr_iald C (kp_6_3 hk0) (xj_ltN C (kp_6_3 hk0) (by decide)) rfl dX6_addStep_125 hR (fun hR => ?_)
          refine xr_iconst (v := 1) C dX6_addStep_126 (by decide) ?_
          refine xr_isub C dX6_addStep_127 ?_
          exact xr_iret C hr dX6_addStep_128 hR
        · refine xr_aload_n C dX6_addStep_115 rfl ?_
          refine xr_iload_n C dX6_addStep_116 rfl ?_
          refine xr_callVv C (st := []) [.int a1] cv_RX6_51 hk0 (fun _ zz9 => mcX6_ready l G hk0 zz9) rfl ⟨Nat.le_of_ble_eq_true rfl, Nat.le_of_ble_eq_true rfl⟩ (Nat.le_of_ble_eq_true rfl) ⟨Nat.zero_le _, Nat.zero_le _⟩ rfl dX6_addStep_117 hR (fun r8 hr8 hR => ?_)
          refine xr_aload_n C dX6_addStep_120 rfl ?_
          refine xr_get C hk0 fl_RX6_9 rfl dX6_addStep_121 ?_
          refine xr_iload_n C dX6_addStep_124 rfl ?_
          refine xr_iald C (kp_6_3 hk0) (xj_ltN C (kp_6_3 hk0) (by decide)) rfl dX6_addStep_125 hR (fun hR => ?_)
          refine xr_iconst (v := 1) C dX6_addStep_126 (by decide) ?_
          refine xr_isub C dX6_addStep_127 ?_
          exact xr_iret C hr dX6_addStep_128 hR
      · refine xr_aload_n C dX6_addStep_48 rfl ?_
        refine xr_iconst (v := 3) C dX6_addStep_49 (by decide) ?_
        refine xr_callVi C (st := []) [.int (3 : Int32)] cv_RX6_79 hk0 (fun _ zz9 => mcX6_no l G hk0 zz9) rfl ⟨Nat.le_of_ble_eq_true rfl, Nat.le_of_ble_eq_true rfl⟩ (Nat.le_of_ble_eq_true rfl) ⟨Nat.zero_le _, Nat.zero_le _⟩ rfl dX6_addStep_50 hR (fun r9 hr9 hR => ?_)
        exact xr_iret C hr dX6_addStep_53 hR
    · refine xr_aload_n C dX6_addStep_31 rfl ?_
      refine xr_iconst (v := 2) C dX6_addStep_32 (by decide) ?_
      refine xr_callVi C (st := []) [.int (2 : Int32)] cv_RX6_79 hk0 (fun _ zz9 => mcX6_no l G hk0 zz9) rfl ⟨Nat.le_of_ble_eq_true rfl, Nat.le_of_ble_eq_true rfl⟩ (Nat.le_of_ble_eq_true rfl) ⟨Nat.zero_le _, Nat.zero_le _⟩ rfl dX6_addStep_33 hR (fun r10 hr10 hR => ?_)
      exact xr_iret C hr dX6_addStep_36 hR
  · refine xr_aload_n C dX6_addStep_13 rfl ?_
    refine xr_iconst (v := 1) C dX6_addStep_14 (by decide) ?_
    refine xr_callVi C (st := []) [.int (1 : Int32)] cv_RX6_79 hk0 (fun _ zz9 => mcX6_no l G hk0 zz9) rfl ⟨Nat.le_of_ble_eq_true rfl, Nat.le_of_ble_eq_true rfl⟩ (Nat.le_of_ble_eq_true rfl) ⟨Nat.zero_le _, Nat.zero_le _⟩ rfl dX6_addStep_15 hR (fun r11 hr11 hR => ?_)
    exact xr_iret C hr dX6_addStep_18 hR
end
section
def mX6_pour (k0 : Nat) (a1 : Int32) (a2 : Int32) (h : xw_M) : Option (xw_M × Int32) := xo_let (xw_st h k0 0 (0 : Int32)) fun h1 => (mX6_isChannel k0 a1 h1).bind fun r2 => (if r2.2 = 0 then (mX6_no k0 (1 : Int32) r2.1).bind fun r7 => some (r7.1, r7.2) else (mX6_isFrom a2 (-999 : Int32) (999 : Int32) r2.1).bind fun r3 => (if r3.2 = 0 then (mX6_no k0 (2 : Int32) r3.1).bind fun r6 => some (r6.1, r6.2) else if xo_ix ((168 : Int32) + a1) 204 = true then if xo_ix ((164 : Int32) + a1) 204 = true then (if (r3.1 (k0 + 5) (Int32.toNatClampNeg ((168 : Int32) + a1))) = (r3.1 (k0 + 5) (Int32.toNatClampNeg ((164 : Int32) + a1))) then (mX6_no k0 (3 : Int32) r3.1).bind fun r5 => some (r5.1, r5.2) else (mX6_send k0 a1 a2 r3.1).bind fun r4 => if xo_ix ((168 : Int32) + a1) 204 = true then some (r4.1, (r4.1 (k0 + 5) (Int32.toNatClampNeg ((168 : Int32) + a1)))) else none) else none else none))
set_option maxHeartbeats 4000000 in
set_option maxRecDepth 100000 in
theorem mcX6_pour (l : Launch) (G : xw_G) {k0 : Nat} {a1 : Int32} {a2 : Int32} (hk0 : xw_kd k0 = 6) {h : xw_M} {q : xw_M × Int32} (hR : mX6_pour k0 a1 a2 h = some q) : xc_M l G yX6_pour cX6_pour 3 (some .int) 3 69 [.ref (xg_ad G k0), .int a1, .int a2] h q.1 (some (.int q.2)) := by
  refine xc_of (by decide +kernel) rfl (Nat.le_of_ble_eq_true rfl) ?_
  intro p e s m args below meth c C hr
  have C : xj_C p s m args meth c G RX6 cX6_pour 3 := C
  show xj_X p l e { frames := 3, cells := 0, slots := 0, locals := 69 } s m args below meth c G 3 0 0 (MQ below (xw_Q G (some (.int q.2)) q.1) args s 0 0 (xg_A G)) h [some (.ref (xg_ad G k0)), some (.int a1), some (.int a2)] 0 []
  unfold mX6_pour at hR
  refine xr_aload_n C dX6_pour_0 rfl ?_
  refine xr_iconst (v := 0) C dX6_pour_1 (by decide) ?_
  refine xr_putL C hk0 fl_RX6_28 pf_6_0 dX6_pour_2 hR (fun h1 hR => ?_)
  refine xr_aload_n C dX6_pour_5 rfl ?_
  refine xr_iload_n C dX6_pour_6 rfl ?_
  refine xr_callVi C (st := []) [.int a1] cv_RX6_82 hk0 (fun _ zz9 => mcX6_isChannel l G hk0 zz9) rfl ⟨Nat.le_of_ble_eq_true rfl, Nat.le_of_ble_eq_true rfl⟩ (Nat.le_of_ble_eq_true rfl) ⟨Nat.zero_le _, Nat.zero_le _⟩ rfl dX6_pour_7 hR (fun r2 hr2 hR => ?_)
  refine xr_if_ne (tgt := 19) C dX6_pour_10 (by decide) hR (fun hR => ?_) (fun hR => ?_)
  · refine xr_iload_n C dX6_pour_19 rfl ?_
    refine xr_sipush (v := (-999)) C dX6_pour_20 (by decide) ?_
    refine xr_sipush (v := 999) C dX6_pour_23 (by decide) ?_
    refine xr_callSi C (st := []) [.int a2, .int (-999 : Int32), .int (999 : Int32)] cs_RX6_35 (fun _ zz9 => mcX6_isFrom l G  zz9) rfl ⟨Nat.le_of_ble_eq_true rfl, Nat.le_of_ble_eq_true rfl⟩ (Nat.le_of_ble_eq_true rfl) ⟨Nat.zero_le _, Nat.zero_le _⟩ rfl dX6_pour_26 hR (fun r3 hr3 hR => ?_)
    refine xr_if_ne (tgt := 38) C dX6_pour_29 (by decide) hR (fun hR => ?_) (fun hR => ?_)
    · refine xr_aload_n C dX6_pour_38 rfl ?_
      refine xr_get C hk0 fl_RX6_22 rfl dX6_pour_39 ?_
      refine xr_sipush (v := 168) C dX6_pour_42 (by decide) ?_
      refine xr_iload_n C dX6_pour_45 rfl ?_
      refine xr_iadd C dX6_pour_46 ?_
      refine xr_iald C (kp_6_7 hk0) (xj_ltN C (kp_6_7 hk0) (by decide)) rfl dX6_pour_47 hR (fun hR => ?_)
      refine xr_aload_n C dX6_pour_48 rfl ?_
      refine xr_get C hk0 fl_RX6_22 rfl dX6_pour_49 ?_
      refine xr_sipush (v := 164) C dX6_pour_52 (by decide) ?_
      refine xr_iload_n C dX6_pour_55 rfl ?_
      refine xr_iadd C dX6_pour_56 ?_
      refine xr_iald C (kp_6_7 hk0) (xj_ltN C (kp_6_7 hk0) (by decide)) rfl dX6_pour_57 hR (fun hR => ?_)
      refine xr_icmp_ne (tgt := 67) C dX6_pour_58 (by decide) hR (fun hR => ?_) (fun hR => ?_)
      · refine xr_aload_n C dX6_pour_67 rfl ?_
        refine xr_iload_n C dX6_pour_68 rfl ?_
        refine xr_iload_n C dX6_pour_69 rfl ?_
        refine xr_callVv C (st := []) [.int a1, .int a2] cv_RX6_62 hk0 (fun _ zz9 => mcX6_send l G hk0 zz9) rfl ⟨Nat.le_of_ble_eq_true rfl, Nat.le_of_ble_eq_true rfl⟩ (Nat.le_of_ble_eq_true rfl) ⟨Nat.zero_le _, Nat.zero_le _⟩ rfl dX6_pour_70 hR (fun r4 hr4 hR => ?_)
        refine xr_aload_n C dX6_pour_73 rfl ?_
        refine xr_get C hk0 fl_RX6_22 rfl dX6_pour_74 ?_
        refine xr_sipush (v := 168) C dX6_pour_77 (by decide) ?_
        refine xr_iload_n C dX6_pour_80 rfl ?_
        refine xr_iadd C dX6_pour_81 ?_
        refine xr_iald C (kp_6_7 hk0) (xj_ltN C (kp_6_7 hk0) (by decide)) rfl dX6_pour_82 hR (fun hR => ?_)
        exact xr_iret C hr dX6_pour_83 hR
      · refine xr_aload_n C dX6_pour_61 rfl ?_
        refine xr_iconst (v := 3) C dX6_pour_62 (by decide) ?_
        refine xr_callVi C (st := []) [.int (3 : Int32)] cv_RX6_79 hk0 (fun _ zz9 => mcX6_no l G hk0 zz9) rfl ⟨Nat.le_of_ble_eq_true rfl, Nat.le_of_ble_eq_true rfl⟩ (Nat.le_of_ble_eq_true rfl) ⟨Nat.zero_le _, Nat.zero_le _⟩ rfl dX6_pour_63 hR (fun r5 hr5 hR => ?_)
        exact xr_iret C hr dX6_pour_66 hR
    · refine xr_aload_n C dX6_pour_32 rfl ?_
      refine xr_iconst (v := 2) C dX6_pour_33 (by decide) ?_
      refine xr_callVi C (st := []) [.int (2 : Int32)] cv_RX6_79 hk0 (fun _ zz9 => mcX6_no l G hk0 zz9) rfl ⟨Nat.le_of_ble_eq_true rfl, Nat.le_of_ble_eq_true rfl⟩ (Nat.le_of_ble_eq_true rfl) ⟨Nat.zero_le _, Nat.zero_le _⟩ rfl dX6_pour_34 hR (fun r6 hr6 hR => ?_)
      exact xr_iret C hr dX6_pour_37 hR
  · refine xr_aload_n C dX6_pour_13 rfl ?_
    refine xr_iconst (v := 1) C dX6_pour_14 (by decide) ?_
    refine xr_callVi C (st := []) [.int (1 : Int32)] cv_RX6_79 hk0 (fun _ zz9 => mcX6_no l G hk0 zz9) rfl ⟨Nat.le_of_ble_eq_true rfl, Nat.le_of_ble_eq_true rfl⟩ (Nat.le_of_ble_eq_true rfl) ⟨Nat.zero_le _, Nat.zero_le _⟩ rfl dX6_pour_15 hR (fun r7 hr7 hR => ?_)
    exact xr_iret C hr dX6_pour_18 hR
end
section
def mX6_run_b30  (k0 : Nat) (a1 : Int32) (a2 : Int32) : Nat → xw_M → Int32 → Option (xw_M × Int32)
  | 0, _, _ => none
  | n + 1, h, a3 => (if a1 ≤ a3 then some (h, ((h (k0 + 5) (Int32.toNatClampNeg (1 : Int32))) - a2)) else (mX6_turnOn k0 h).bind fun r3 => mX6_run_b30  k0 a1 a2 n r3.1 ((a3 + 1)))
def mX6_run (k0 : Nat) (a1 : Int32) (h : xw_M) : Option (xw_M × Int32) := xo_let (xw_st h k0 0 (0 : Int32)) fun h1 => (mX6_isFrom a1 (1 : Int32) (60 : Int32) h1).bind fun r2 => (if r2.2 = 0 then (mX6_no k0 (1 : Int32) r2.1).bind fun r4 => some (r4.1, r4.2) else mX6_run_b30  (k0) (a1) ((r2.1 (k0 + 5) (Int32.toNatClampNeg (1 : Int32)))) xo_n r2.1 ((0 : Int32)))
set_option maxHeartbeats 4000000 in
set_option maxRecDepth 100000 in
theorem mbX6_run_b30 {p : Program} {l : Launch} {e : Env} {s : State} {m : MethodId} {args : Array Value} {below : List Frame} {meth : Method} {c : Code} {G : xw_G} (C : xj_C p s m args meth c G RX6 cX6_run 4) (hr : meth.sig.returnType = (some .int)) {q : xw_M × Int32} {k0 : Nat} {a1 : Int32} {a2 : Int32}  (hk0 : xw_kd k0 = 6) : ∀ (n : Nat) (h : xw_M) (a3 : Int32), mX6_run_b30  k0 a1 a2 n h a3 = some q → xj_X p l e { frames := 6, cells := 0, slots := 0, locals := 137 } s m args below meth c G 4 0 0 (MQ below (xw_Q G (some (.int q.2)) q.1) args s 0 0 (xg_A G)) h [some (.ref (xg_ad G k0)), some (.int a1), some (.int a2), some (.int a3)] 30 [] := by
  intro n
  induction n with
  | zero => intro h a3 hR; exact absurd (show (none : Option (xw_M × Int32)) = some q from hR) (fun z => by cases z)
  | succ n ih =>
    intro h a3 hR
    rw [mX6_run_b30.eq_2] at hR
    refine xr_iload_n C dX6_run_30 rfl ?_
    refine xr_iload_n C dX6_run_31 rfl ?_
    refine xr_icmp_ge (tgt := 45) C dX6_run_32 (by decide) hR (fun hR => ?_) (fun hR => ?_)
    · refine xr_aload_n C dX6_run_45 rfl ?_
      refine xr_get C hk0 fl_RX6_22 rfl dX6_run_46 ?_
      refine xr_iconst (v := 1) C dX6_run_49 (by decide) ?_
      refine xr_ialdC C (kp_6_7 hk0) (xj_ltN C (kp_6_7 hk0) (by decide)) rfl (by decide) dX6_run_50 ?_
      refine xr_iload_n C dX6_run_51 rfl ?_
      refine xr_isub C dX6_run_52 ?_
      exact xr_iret C hr dX6_run_53 hR
    · refine xr_aload_n C dX6_run_35 rfl ?_
      refine xr_callVv C (st := []) [] cv_RX6_92 hk0 (fun _ zz9 => mcX6_turnOn l G hk0 zz9) rfl ⟨Nat.le_of_ble_eq_true rfl, Nat.le_of_ble_eq_true rfl⟩ (Nat.le_of_ble_eq_true rfl) ⟨Nat.zero_le _, Nat.zero_le _⟩ rfl dX6_run_36 hR (fun r3 hr3 hR => ?_)
      refine xr_iinc (v := 1) C dX6_run_39 rfl (by decide) rfl (by decide) ?_
      refine xr_goto (tgt := 30) C dX6_run_42 (by decide) ?_
      exact xr_sub (lv9 := [some (.ref (xg_ad G k0)), some (.int a1), some (.int a2), some (.int (a3 + 1))]) (And.intro rfl (And.intro rfl (And.intro rfl (And.intro rfl trivial)))) (ih _ _  hR)
set_option maxHeartbeats 4000000 in
set_option maxRecDepth 100000 in
theorem mcX6_run (l : Launch) (G : xw_G) {k0 : Nat} {a1 : Int32} (hk0 : xw_kd k0 = 6) {h : xw_M} {q : xw_M × Int32} (hR : mX6_run k0 a1 h = some q) : xc_M l G yX6_run cX6_run 4 (some .int) 6 137 [.ref (xg_ad G k0), .int a1] h q.1 (some (.int q.2)) := by
  refine xc_of (by decide +kernel) rfl (Nat.le_of_ble_eq_true rfl) ?_
  intro p e s m args below meth c C hr
  have C : xj_C p s m args meth c G RX6 cX6_run 4 := C
  show xj_X p l e { frames := 6, cells := 0, slots := 0, locals := 137 } s m args below meth c G 4 0 0 (MQ below (xw_Q G (some (.int q.2)) q.1) args s 0 0 (xg_A G)) h [some (.ref (xg_ad G k0)), some (.int a1), none, none] 0 []
  unfold mX6_run at hR
  refine xr_aload_n C dX6_run_0 rfl ?_
  refine xr_iconst (v := 0) C dX6_run_1 (by decide) ?_
  refine xr_putL C hk0 fl_RX6_28 pf_6_0 dX6_run_2 hR (fun h1 hR => ?_)
  refine xr_iload_n C dX6_run_5 rfl ?_
  refine xr_iconst (v := 1) C dX6_run_6 (by decide) ?_
  refine xr_bipush (v := 60) C dX6_run_7 (by decide) ?_
  refine xr_callSi C (st := []) [.int a1, .int (1 : Int32), .int (60 : Int32)] cs_RX6_35 (fun _ zz9 => mcX6_isFrom l G  zz9) rfl ⟨Nat.le_of_ble_eq_true rfl, Nat.le_of_ble_eq_true rfl⟩ (Nat.le_of_ble_eq_true rfl) ⟨Nat.zero_le _, Nat.zero_le _⟩ rfl dX6_run_9 hR (fun r2 hr2 hR => ?_)
  refine xr_if_ne (tgt := 21) C dX6_run_12 (by decide) hR (fun hR => ?_) (fun hR => ?_)
  · refine xr_aload_n C dX6_run_21 rfl ?_
    refine xr_get C hk0 fl_RX6_22 rfl dX6_run_22 ?_
    refine xr_iconst (v := 1) C dX6_run_25 (by decide) ?_
    refine xr_ialdC C (kp_6_7 hk0) (xj_ltN C (kp_6_7 hk0) (by decide)) rfl (by decide) dX6_run_26 ?_
    refine xr_istore_n C dX6_run_27 rfl (by decide) ?_
    refine xr_iconst (v := 0) C dX6_run_28 (by decide) ?_
    refine xr_istore_n C dX6_run_29 rfl (by decide) ?_
    exact xr_sub (lv9 := [some (.ref (xg_ad G k0)), some (.int a1), some (.int (r2.1 (k0 + 5) (Int32.toNatClampNeg (1 : Int32)))), some (.int (0 : Int32))]) (And.intro rfl (And.intro rfl (And.intro rfl (And.intro rfl trivial)))) (mbX6_run_b30 C hr  hk0 _ _ _  hR)
  · refine xr_aload_n C dX6_run_15 rfl ?_
    refine xr_iconst (v := 1) C dX6_run_16 (by decide) ?_
    refine xr_callVi C (st := []) [.int (1 : Int32)] cv_RX6_79 hk0 (fun _ zz9 => mcX6_no l G hk0 zz9) rfl ⟨Nat.le_of_ble_eq_true rfl, Nat.le_of_ble_eq_true rfl⟩ (Nat.le_of_ble_eq_true rfl) ⟨Nat.zero_le _, Nat.zero_le _⟩ rfl dX6_run_17 hR (fun r4 hr4 hR => ?_)
    exact xr_iret C hr dX6_run_20 hR
end
section
def mX6_time (k0 : Nat) (h : xw_M) : Option (xw_M × Int32) := (mX6_ok k0 (h (k0 + 5) (Int32.toNatClampNeg (0 : Int32))) h).bind fun r1 => some (r1.1, r1.2)
set_option maxHeartbeats 4000000 in
set_option maxRecDepth 100000 in
theorem mcX6_time (l : Launch) (G : xw_G) {k0 : Nat} (hk0 : xw_kd k0 = 6) {h : xw_M} {q : xw_M × Int32} (hR : mX6_time k0 h = some q) : xc_M l G yX6_time cX6_time 1 (some .int) 1 21 [.ref (xg_ad G k0)] h q.1 (some (.int q.2)) := by
  refine xc_of (by decide +kernel) rfl (Nat.le_of_ble_eq_true rfl) ?_
  intro p e s m args below meth c C hr
  have C : xj_C p s m args meth c G RX6 cX6_time 1 := C
  show xj_X p l e { frames := 1, cells := 0, slots := 0, locals := 21 } s m args below meth c G 1 0 0 (MQ below (xw_Q G (some (.int q.2)) q.1) args s 0 0 (xg_A G)) h [some (.ref (xg_ad G k0))] 0 []
  unfold mX6_time at hR
  refine xr_aload_n C dX6_time_0 rfl ?_
  refine xr_aload_n C dX6_time_1 rfl ?_
  refine xr_get C hk0 fl_RX6_22 rfl dX6_time_2 ?_
  refine xr_iconst (v := 0) C dX6_time_5 (by decide) ?_
  refine xr_ialdC C (kp_6_7 hk0) (xj_ltN C (kp_6_7 hk0) (by decide)) rfl (by decide) dX6_time_6 ?_
  refine xr_callVi C (st := []) [.int (h (k0 + 5) (Int32.toNatClampNeg (0 : Int32)))] cv_RX6_95 hk0 (fun _ zz9 => mcX6_ok l G hk0 zz9) rfl ⟨Nat.le_of_ble_eq_true rfl, Nat.le_of_ble_eq_true rfl⟩ (Nat.le_of_ble_eq_true rfl) ⟨Nat.zero_le _, Nat.zero_le _⟩ rfl dX6_time_7 hR (fun r1 hr1 hR => ?_)
  exact xr_iret C hr dX6_time_10 hR
end
section
def mX6_channels (k0 : Nat) (h : xw_M) : Option (xw_M × Int32) := (mX6_ok k0 (h k0 1) h).bind fun r1 => some (r1.1, r1.2)
set_option maxHeartbeats 4000000 in
set_option maxRecDepth 100000 in
theorem mcX6_channels (l : Launch) (G : xw_G) {k0 : Nat} (hk0 : xw_kd k0 = 6) {h : xw_M} {q : xw_M × Int32} (hR : mX6_channels k0 h = some q) : xc_M l G yX6_channels cX6_channels 1 (some .int) 1 21 [.ref (xg_ad G k0)] h q.1 (some (.int q.2)) := by
  refine xc_of (by decide +kernel) rfl (Nat.le_of_ble_eq_true rfl) ?_
  intro p e s m args below meth c C hr
  have C : xj_C p s m args meth c G RX6 cX6_channels 1 := C
  show xj_X p l e { frames := 1, cells := 0, slots := 0, locals := 21 } s m args below meth c G 1 0 0 (MQ below (xw_Q G (some (.int q.2)) q.1) args s 0 0 (xg_A G)) h [some (.ref (xg_ad G k0))] 0 []
  unfold mX6_channels at hR
  refine xr_aload_n C dX6_channels_0 rfl ?_
  refine xr_aload_n C dX6_channels_1 rfl ?_
  refine xr_get C hk0 fl_RX6_32 rfl dX6_channels_2 ?_
  refine xr_callVi C (st := []) [.int (h k0 1)] cv_RX6_95 hk0 (fun _ zz9 => mcX6_ok l G hk0 zz9) rfl ⟨Nat.le_of_ble_eq_true rfl, Nat.le_of_ble_eq_true rfl⟩ (Nat.le_of_ble_eq_true rfl) ⟨Nat.zero_le _, Nat.zero_le _⟩ rfl dX6_channels_5 hR (fun r1 hr1 hR => ?_)
  exact xr_iret C hr dX6_channels_8 hR
end
section
def mX6_fibers (k0 : Nat) (h : xw_M) : Option (xw_M × Int32) := (mX6_ok k0 (h k0 2) h).bind fun r1 => some (r1.1, r1.2)
set_option maxHeartbeats 4000000 in
set_option maxRecDepth 100000 in
theorem mcX6_fibers (l : Launch) (G : xw_G) {k0 : Nat} (hk0 : xw_kd k0 = 6) {h : xw_M} {q : xw_M × Int32} (hR : mX6_fibers k0 h = some q) : xc_M l G yX6_fibers cX6_fibers 1 (some .int) 1 21 [.ref (xg_ad G k0)] h q.1 (some (.int q.2)) := by
  refine xc_of (by decide +kernel) rfl (Nat.le_of_ble_eq_true rfl) ?_
  intro p e s m args below meth c C hr
  have C : xj_C p s m args meth c G RX6 cX6_fibers 1 := C
  show xj_X p l e { frames := 1, cells := 0, slots := 0, locals := 21 } s m args below meth c G 1 0 0 (MQ below (xw_Q G (some (.int q.2)) q.1) args s 0 0 (xg_A G)) h [some (.ref (xg_ad G k0))] 0 []
  unfold mX6_fibers at hR
  refine xr_aload_n C dX6_fibers_0 rfl ?_
  refine xr_aload_n C dX6_fibers_1 rfl ?_
  refine xr_get C hk0 fl_RX6_39 rfl dX6_fibers_2 ?_
  refine xr_callVi C (st := []) [.int (h k0 2)] cv_RX6_95 hk0 (fun _ zz9 => mcX6_ok l G hk0 zz9) rfl ⟨Nat.le_of_ble_eq_true rfl, Nat.le_of_ble_eq_true rfl⟩ (Nat.le_of_ble_eq_true rfl) ⟨Nat.zero_le _, Nat.zero_le _⟩ rfl dX6_fibers_5 hR (fun r1 hr1 hR => ?_)
  exact xr_iret C hr dX6_fibers_8 hR
end
section
def mX6_inState_b31 (K4 : xw_M → Int32 → Int32 → Option (xw_M × Int32)) (k0 : Nat) (a1 : Int32) (a3 : Int32) (h : xw_M) (as0 : Int32) (as1 : Int32) : Option (xw_M × Int32) := K4 h ((as1 + as0)) ((a3 + 1))
def mX6_inState_b4  (k0 : Nat) (a1 : Int32) : Nat → xw_M → Int32 → Int32 → Option (xw_M × Int32)
  | 0, _, _, _ => none
  | n + 1, h, a2, a3 => (if (h k0 2) ≤ a3 then some (h, a2) else if xo_ix ((12 : Int32) + a3) 204 = true then (if (h (k0 + 5) (Int32.toNatClampNeg ((12 : Int32) + a3))) = a1 then mX6_inState_b31 (mX6_inState_b4  k0 a1 n) (k0) (a1) (a3) h ((1 : Int32)) (a2) else mX6_inState_b31 (mX6_inState_b4  k0 a1 n) (k0) (a1) (a3) h ((0 : Int32)) (a2)) else none)
def mX6_inState (k0 : Nat) (a1 : Int32) (h : xw_M) : Option (xw_M × Int32) := mX6_inState_b4  (k0) (a1) xo_n h ((0 : Int32)) ((0 : Int32))
set_option maxHeartbeats 4000000 in
set_option maxRecDepth 100000 in
theorem mbX6_inState_b31 {p : Program} {l : Launch} {e : Env} {s : State} {m : MethodId} {args : Array Value} {below : List Frame} {meth : Method} {c : Code} {G : xw_G} (C : xj_C p s m args meth c G RX6 cX6_inState 4) (hr : meth.sig.returnType = (some .int)) {q : xw_M × Int32} {K4 : xw_M → Int32 → Int32 → Option (xw_M × Int32)} {k0 : Nat} {a1 : Int32} {a3 : Int32} (hK4 : ∀ (h : xw_M) (a2 : Int32) (a3 : Int32), K4 h a2 a3 = some q → xj_X p l e { frames := 0, cells := 0, slots := 0, locals := 0 } s m args below meth c G 4 0 0 (MQ below (xw_Q G (some (.int q.2)) q.1) args s 0 0 (xg_A G)) h [some (.ref (xg_ad G k0)), some (.int a1), some (.int a2), some (.int a3)] 4 []) (hk0 : xw_kd k0 = 6) {h : xw_M} {as0 : Int32} {as1 : Int32}   (hR : mX6_inState_b31 K4 k0 a1 a3 h as0 as1 = some q) : xj_X p l e { frames := 0, cells := 0, slots := 0, locals := 0 } s m args below meth c G 4 0 0 (MQ below (xw_Q G (some (.int q.2)) q.1) args s 0 0 (xg_A G)) h [some (.ref (xg_ad G k0)), some (.int a1), none, some (.int a3)] 31 [.int as0, .int as1] := by
  unfold mX6_inState_b31 at hR
  refine xr_iadd C dX6_inState_31 ?_
  refine xr_istore_n C dX6_inState_32 rfl (by decide) ?_
  refine xr_iinc (v := 1) C dX6_inState_33 rfl (by decide) rfl (by decide) ?_
  refine xr_goto (tgt := 4) C dX6_inState_36 (by decide) ?_
  exact xr_sub (lv9 := [some (.ref (xg_ad G k0)), some (.int a1), some (.int (as1 + as0)), some (.int (a3 + 1))]) (And.intro rfl (And.intro rfl (And.intro rfl (And.intro rfl trivial)))) (hK4 _ _ _  hR)
set_option maxHeartbeats 4000000 in
set_option maxRecDepth 100000 in
theorem mbX6_inState_b4 {p : Program} {l : Launch} {e : Env} {s : State} {m : MethodId} {args : Array Value} {below : List Frame} {meth : Method} {c : Code} {G : xw_G} (C : xj_C p s m args meth c G RX6 cX6_inState 4) (hr : meth.sig.returnType = (some .int)) {q : xw_M × Int32} {k0 : Nat} {a1 : Int32}  (hk0 : xw_kd k0 = 6) : ∀ (n : Nat) (h : xw_M) (a2 : Int32) (a3 : Int32), mX6_inState_b4  k0 a1 n h a2 a3 = some q → xj_X p l e { frames := 0, cells := 0, slots := 0, locals := 0 } s m args below meth c G 4 0 0 (MQ below (xw_Q G (some (.int q.2)) q.1) args s 0 0 (xg_A G)) h [some (.ref (xg_ad G k0)), some (.int a1), some (.int a2), some (.int a3)] 4 [] := by
  intro n
  induction n with
  | zero => intro h a2 a3 hR; exact absurd (show (none : Option (xw_M × Int32)) = some q from hR) (fun z => by cases z)
  | succ n ih =>
    intro h a2 a3 hR
    rw [mX6_inState_b4.eq_2] at hR
    refine xr_iload_n C dX6_inState_4 rfl ?_
    refine xr_aload_n C dX6_inState_5 rfl ?_
    refine xr_get C hk0 fl_RX6_39 rfl dX6_inState_6 ?_
    refine xr_icmp_ge (tgt := 39) C dX6_inState_9 (by decide) hR (fun hR => ?_) (fun hR => ?_)
    · refine xr_iload_n C dX6_inState_39 rfl ?_
      exact xr_iret C hr dX6_inState_40 hR
    · refine xr_iload_n C dX6_inState_12 rfl ?_
      refine xr_aload_n C dX6_inState_13 rfl ?_
      refine xr_get C hk0 fl_RX6_22 rfl dX6_inState_14 ?_
      refine xr_bipush (v := 12) C dX6_inState_17 (by decide) ?_
      refine xr_iload_n C dX6_inState_19 rfl ?_
      refine xr_iadd C dX6_inState_20 ?_
      refine xr_iald C (kp_6_7 hk0) (xj_ltN C (kp_6_7 hk0) (by decide)) rfl dX6_inState_21 hR (fun hR => ?_)
      refine xr_iload_n C dX6_inState_22 rfl ?_
      refine xr_icmp_ne (tgt := 30) C dX6_inState_23 (by decide) hR (fun hR => ?_) (fun hR => ?_)
      · refine xr_iconst (v := 0) C dX6_inState_30 (by decide) ?_
        exact xr_sub (lv9 := [some (.ref (xg_ad G k0)), some (.int a1), none, some (.int a3)]) (And.intro rfl (And.intro rfl (And.intro rfl trivial))) (mbX6_inState_b31 C hr ih hk0  hR)
      · refine xr_iconst (v := 1) C dX6_inState_26 (by decide) ?_
        refine xr_goto (tgt := 31) C dX6_inState_27 (by decide) ?_
        exact xr_sub (lv9 := [some (.ref (xg_ad G k0)), some (.int a1), none, some (.int a3)]) (And.intro rfl (And.intro rfl (And.intro rfl trivial))) (mbX6_inState_b31 C hr ih hk0  hR)
set_option maxHeartbeats 4000000 in
set_option maxRecDepth 100000 in
theorem mcX6_inState (l : Launch) (G : xw_G) {k0 : Nat} {a1 : Int32} (hk0 : xw_kd k0 = 6) {h : xw_M} {q : xw_M × Int32} (hR : mX6_inState k0 a1 h = some q) : xc_M l G yX6_inState cX6_inState 4 (some .int) 0 0 [.ref (xg_ad G k0), .int a1] h q.1 (some (.int q.2)) := by
  refine xc_of (by decide +kernel) rfl (Nat.le_of_ble_eq_true rfl) ?_
  intro p e s m args below meth c C hr
  have C : xj_C p s m args meth c G RX6 cX6_inState 4 := C
  show xj_X p l e { frames := 0, cells := 0, slots := 0, locals := 0 } s m args below meth c G 4 0 0 (MQ below (xw_Q G (some (.int q.2)) q.1) args s 0 0 (xg_A G)) h [some (.ref (xg_ad G k0)), some (.int a1), none, none] 0 []
  unfold mX6_inState at hR
  refine xr_iconst (v := 0) C dX6_inState_0 (by decide) ?_
  refine xr_istore_n C dX6_inState_1 rfl (by decide) ?_
  refine xr_iconst (v := 0) C dX6_inState_2 (by decide) ?_
  refine xr_istore_n C dX6_inState_3 rfl (by decide) ?_
  exact xr_sub (lv9 := [some (.ref (xg_ad G k0)), some (.int a1), some (.int (0 : Int32)), some (.int (0 : Int32))]) (And.intro rfl (And.intro rfl (And.intro rfl (And.intro rfl trivial)))) (mbX6_inState_b4 C hr  hk0 _ _ _ _  hR)
end
section
def mX6_done_ (k0 : Nat) (h : xw_M) : Option (xw_M × Int32) := (mX6_inState k0 (5 : Int32) h).bind fun r1 => (mX6_ok k0 r1.2 r1.1).bind fun r2 => some (r2.1, r2.2)
set_option maxHeartbeats 4000000 in
set_option maxRecDepth 100000 in
theorem mcX6_done_ (l : Launch) (G : xw_G) {k0 : Nat} (hk0 : xw_kd k0 = 6) {h : xw_M} {q : xw_M × Int32} (hR : mX6_done_ k0 h = some q) : xc_M l G yX6_done_ cX6_done_ 1 (some .int) 1 23 [.ref (xg_ad G k0)] h q.1 (some (.int q.2)) := by
  refine xc_of (by decide +kernel) rfl (Nat.le_of_ble_eq_true rfl) ?_
  intro p e s m args below meth c C hr
  have C : xj_C p s m args meth c G RX6 cX6_done_ 1 := C
  show xj_X p l e { frames := 1, cells := 0, slots := 0, locals := 23 } s m args below meth c G 1 0 0 (MQ below (xw_Q G (some (.int q.2)) q.1) args s 0 0 (xg_A G)) h [some (.ref (xg_ad G k0))] 0 []
  unfold mX6_done_ at hR
  refine xr_aload_n C dX6_done__0 rfl ?_
  refine xr_aload_n C dX6_done__1 rfl ?_
  refine xr_iconst (v := 5) C dX6_done__2 (by decide) ?_
  refine xr_callVi C (st := [.ref (xg_ad G k0)]) [.int (5 : Int32)] cv_RX6_98 hk0 (fun _ zz9 => mcX6_inState l G hk0 zz9) rfl ⟨Nat.le_of_ble_eq_true rfl, Nat.le_of_ble_eq_true rfl⟩ (Nat.le_of_ble_eq_true rfl) ⟨Nat.zero_le _, Nat.zero_le _⟩ rfl dX6_done__3 hR (fun r1 hr1 hR => ?_)
  refine xr_callVi C (st := []) [.int r1.2] cv_RX6_95 hk0 (fun _ zz9 => mcX6_ok l G hk0 zz9) rfl ⟨Nat.le_of_ble_eq_true rfl, Nat.le_of_ble_eq_true rfl⟩ (Nat.le_of_ble_eq_true rfl) ⟨Nat.zero_le _, Nat.zero_le _⟩ rfl dX6_done__6 hR (fun r2 hr2 hR => ?_)
  exact xr_iret C hr dX6_done__9 hR
end
section
def mX6_idleTurns (k0 : Nat) (h : xw_M) : Option (xw_M × Int32) := (mX6_ok k0 (h (k0 + 5) (Int32.toNatClampNeg (1 : Int32))) h).bind fun r1 => some (r1.1, r1.2)
set_option maxHeartbeats 4000000 in
set_option maxRecDepth 100000 in
theorem mcX6_idleTurns (l : Launch) (G : xw_G) {k0 : Nat} (hk0 : xw_kd k0 = 6) {h : xw_M} {q : xw_M × Int32} (hR : mX6_idleTurns k0 h = some q) : xc_M l G yX6_idleTurns cX6_idleTurns 1 (some .int) 1 21 [.ref (xg_ad G k0)] h q.1 (some (.int q.2)) := by
  refine xc_of (by decide +kernel) rfl (Nat.le_of_ble_eq_true rfl) ?_
  intro p e s m args below meth c C hr
  have C : xj_C p s m args meth c G RX6 cX6_idleTurns 1 := C
  show xj_X p l e { frames := 1, cells := 0, slots := 0, locals := 21 } s m args below meth c G 1 0 0 (MQ below (xw_Q G (some (.int q.2)) q.1) args s 0 0 (xg_A G)) h [some (.ref (xg_ad G k0))] 0 []
  unfold mX6_idleTurns at hR
  refine xr_aload_n C dX6_idleTurns_0 rfl ?_
  refine xr_aload_n C dX6_idleTurns_1 rfl ?_
  refine xr_get C hk0 fl_RX6_22 rfl dX6_idleTurns_2 ?_
  refine xr_iconst (v := 1) C dX6_idleTurns_5 (by decide) ?_
  refine xr_ialdC C (kp_6_7 hk0) (xj_ltN C (kp_6_7 hk0) (by decide)) rfl (by decide) dX6_idleTurns_6 ?_
  refine xr_callVi C (st := []) [.int (h (k0 + 5) (Int32.toNatClampNeg (1 : Int32)))] cv_RX6_95 hk0 (fun _ zz9 => mcX6_ok l G hk0 zz9) rfl ⟨Nat.le_of_ble_eq_true rfl, Nat.le_of_ble_eq_true rfl⟩ (Nat.le_of_ble_eq_true rfl) ⟨Nat.zero_le _, Nat.zero_le _⟩ rfl dX6_idleTurns_7 hR (fun r1 hr1 hR => ?_)
  exact xr_iret C hr dX6_idleTurns_10 hR
end
section
def mX6_first (k0 : Nat) (h : xw_M) : Option (xw_M × Int32) := (if (h (k0 + 5) (Int32.toNatClampNeg (3 : Int32))) = 0 then some (h, (-1 : Int32)) else some (h, (h (k0 + 5) (Int32.toNatClampNeg (4 : Int32)))))
set_option maxHeartbeats 4000000 in
set_option maxRecDepth 100000 in
theorem mcX6_first (l : Launch) (G : xw_G) {k0 : Nat} (hk0 : xw_kd k0 = 6) {h : xw_M} {q : xw_M × Int32} (hR : mX6_first k0 h = some q) : xc_M l G yX6_first cX6_first 1 (some .int) 0 0 [.ref (xg_ad G k0)] h q.1 (some (.int q.2)) := by
  refine xc_of (by decide +kernel) rfl (Nat.le_of_ble_eq_true rfl) ?_
  intro p e s m args below meth c C hr
  have C : xj_C p s m args meth c G RX6 cX6_first 1 := C
  show xj_X p l e { frames := 0, cells := 0, slots := 0, locals := 0 } s m args below meth c G 1 0 0 (MQ below (xw_Q G (some (.int q.2)) q.1) args s 0 0 (xg_A G)) h [some (.ref (xg_ad G k0))] 0 []
  unfold mX6_first at hR
  refine xr_aload_n C dX6_first_0 rfl ?_
  refine xr_get C hk0 fl_RX6_22 rfl dX6_first_1 ?_
  refine xr_iconst (v := 3) C dX6_first_4 (by decide) ?_
  refine xr_ialdC C (kp_6_7 hk0) (xj_ltN C (kp_6_7 hk0) (by decide)) rfl (by decide) dX6_first_5 ?_
  refine xr_if_ne (tgt := 13) C dX6_first_6 (by decide) hR (fun hR => ?_) (fun hR => ?_)
  · refine xr_aload_n C dX6_first_13 rfl ?_
    refine xr_get C hk0 fl_RX6_22 rfl dX6_first_14 ?_
    refine xr_iconst (v := 4) C dX6_first_17 (by decide) ?_
    refine xr_ialdC C (kp_6_7 hk0) (xj_ltN C (kp_6_7 hk0) (by decide)) rfl (by decide) dX6_first_18 ?_
    exact xr_iret C hr dX6_first_19 hR
  · refine xr_iconst (v := (-1)) C dX6_first_9 (by decide) ?_
    refine xr_goto (tgt := 19) C dX6_first_10 (by decide) ?_
    exact xr_iret C hr dX6_first_19 hR
end
section
def mX6_next (k0 : Nat) (h : xw_M) : Option (xw_M × Int32) := (mX6_first k0 h).bind fun r1 => (mX6_ok k0 r1.2 r1.1).bind fun r2 => some (r2.1, r2.2)
set_option maxHeartbeats 4000000 in
set_option maxRecDepth 100000 in
theorem mcX6_next (l : Launch) (G : xw_G) {k0 : Nat} (hk0 : xw_kd k0 = 6) {h : xw_M} {q : xw_M × Int32} (hR : mX6_next k0 h = some q) : xc_M l G yX6_next cX6_next 1 (some .int) 1 21 [.ref (xg_ad G k0)] h q.1 (some (.int q.2)) := by
  refine xc_of (by decide +kernel) rfl (Nat.le_of_ble_eq_true rfl) ?_
  intro p e s m args below meth c C hr
  have C : xj_C p s m args meth c G RX6 cX6_next 1 := C
  show xj_X p l e { frames := 1, cells := 0, slots := 0, locals := 21 } s m args below meth c G 1 0 0 (MQ below (xw_Q G (some (.int q.2)) q.1) args s 0 0 (xg_A G)) h [some (.ref (xg_ad G k0))] 0 []
  unfold mX6_next at hR
  refine xr_aload_n C dX6_next_0 rfl ?_
  refine xr_aload_n C dX6_next_1 rfl ?_
  refine xr_callVi C (st := [.ref (xg_ad G k0)]) [] cv_RX6_101 hk0 (fun _ zz9 => mcX6_first l G hk0 zz9) rfl ⟨Nat.le_of_ble_eq_true rfl, Nat.le_of_ble_eq_true rfl⟩ (Nat.le_of_ble_eq_true rfl) ⟨Nat.zero_le _, Nat.zero_le _⟩ rfl dX6_next_2 hR (fun r1 hr1 hR => ?_)
  refine xr_callVi C (st := []) [.int r1.2] cv_RX6_95 hk0 (fun _ zz9 => mcX6_ok l G hk0 zz9) rfl ⟨Nat.le_of_ble_eq_true rfl, Nat.le_of_ble_eq_true rfl⟩ (Nat.le_of_ble_eq_true rfl) ⟨Nat.zero_le _, Nat.zero_le _⟩ rfl dX6_next_5 hR (fun r2 hr2 hR => ?_)
  exact xr_iret C hr dX6_next_8 hR
end
section
def mX6_stuck (k0 : Nat) (h : xw_M) : Option (xw_M × Int32) := (if (h (k0 + 5) (Int32.toNatClampNeg (3 : Int32))) = 0 then (mX6_inState k0 (3 : Int32) h).bind fun r1 => (if r1.2 = 0 then (mX6_inState k0 (5 : Int32) r1.1).bind fun r2 => (if (r2.1 k0 2) ≤ r2.2 then some (r2.1, (0 : Int32)) else some (r2.1, (1 : Int32))) else some (r1.1, (0 : Int32))) else some (h, (0 : Int32)))
set_option maxHeartbeats 4000000 in
set_option maxRecDepth 100000 in
theorem mcX6_stuck (l : Launch) (G : xw_G) {k0 : Nat} (hk0 : xw_kd k0 = 6) {h : xw_M} {q : xw_M × Int32} (hR : mX6_stuck k0 h = some q) : xc_M l G yX6_stuck cX6_stuck 1 (some .boolean) 1 23 [.ref (xg_ad G k0)] h q.1 (some (.int q.2)) := by
  refine xc_of (by decide +kernel) rfl (Nat.le_of_ble_eq_true rfl) ?_
  intro p e s m args below meth c C hr
  have C : xj_C p s m args meth c G RX6 cX6_stuck 1 := C
  show xj_X p l e { frames := 1, cells := 0, slots := 0, locals := 23 } s m args below meth c G 1 0 0 (MQ below (xw_Q G (some (.int q.2)) q.1) args s 0 0 (xg_A G)) h [some (.ref (xg_ad G k0))] 0 []
  unfold mX6_stuck at hR
  refine xr_aload_n C dX6_stuck_0 rfl ?_
  refine xr_get C hk0 fl_RX6_22 rfl dX6_stuck_1 ?_
  refine xr_iconst (v := 3) C dX6_stuck_4 (by decide) ?_
  refine xr_ialdC C (kp_6_7 hk0) (xj_ltN C (kp_6_7 hk0) (by decide)) rfl (by decide) dX6_stuck_5 ?_
  refine xr_if_ne (tgt := 33) C dX6_stuck_6 (by decide) hR (fun hR => ?_) (fun hR => ?_)
  · refine xr_iconst (v := 0) C dX6_stuck_33 (by decide) ?_
    exact xr_zret C hr (Or.inl rfl) dX6_stuck_34 hR
  · refine xr_aload_n C dX6_stuck_9 rfl ?_
    refine xr_iconst (v := 3) C dX6_stuck_10 (by decide) ?_
    refine xr_callVi C (st := []) [.int (3 : Int32)] cv_RX6_98 hk0 (fun _ zz9 => mcX6_inState l G hk0 zz9) rfl ⟨Nat.le_of_ble_eq_true rfl, Nat.le_of_ble_eq_true rfl⟩ (Nat.le_of_ble_eq_true rfl) ⟨Nat.zero_le _, Nat.zero_le _⟩ rfl dX6_stuck_11 hR (fun r1 hr1 hR => ?_)
    refine xr_if_ne (tgt := 33) C dX6_stuck_14 (by decide) hR (fun hR => ?_) (fun hR => ?_)
    · refine xr_iconst (v := 0) C dX6_stuck_33 (by decide) ?_
      exact xr_zret C hr (Or.inl rfl) dX6_stuck_34 hR
    · refine xr_aload_n C dX6_stuck_17 rfl ?_
      refine xr_iconst (v := 5) C dX6_stuck_18 (by decide) ?_
      refine xr_callVi C (st := []) [.int (5 : Int32)] cv_RX6_98 hk0 (fun _ zz9 => mcX6_inState l G hk0 zz9) rfl ⟨Nat.le_of_ble_eq_true rfl, Nat.le_of_ble_eq_true rfl⟩ (Nat.le_of_ble_eq_true rfl) ⟨Nat.zero_le _, Nat.zero_le _⟩ rfl dX6_stuck_19 hR (fun r2 hr2 hR => ?_)
      refine xr_aload_n C dX6_stuck_22 rfl ?_
      refine xr_get C hk0 fl_RX6_39 rfl dX6_stuck_23 ?_
      refine xr_icmp_ge (tgt := 33) C dX6_stuck_26 (by decide) hR (fun hR => ?_) (fun hR => ?_)
      · refine xr_iconst (v := 0) C dX6_stuck_33 (by decide) ?_
        exact xr_zret C hr (Or.inl rfl) dX6_stuck_34 hR
      · refine xr_iconst (v := 1) C dX6_stuck_29 (by decide) ?_
        refine xr_goto (tgt := 34) C dX6_stuck_30 (by decide) ?_
        exact xr_zret C hr (Or.inr rfl) dX6_stuck_34 hR
end
section
def mX6_isStuck (k0 : Nat) (h : xw_M) : Option (xw_M × Int32) := xo_let (xw_st h k0 0 (0 : Int32)) fun h1 => (mX6_stuck k0 h1).bind fun r2 => (if r2.2 = 0 ∨ r2.2 = 1 then some (r2.1, r2.2) else none)
set_option maxHeartbeats 4000000 in
set_option maxRecDepth 100000 in
theorem mcX6_isStuck (l : Launch) (G : xw_G) {k0 : Nat} (hk0 : xw_kd k0 = 6) {h : xw_M} {q : xw_M × Int32} (hR : mX6_isStuck k0 h = some q) : xc_M l G yX6_isStuck cX6_isStuck 1 (some .boolean) 2 43 [.ref (xg_ad G k0)] h q.1 (some (.int q.2)) := by
  refine xc_of (by decide +kernel) rfl (Nat.le_of_ble_eq_true rfl) ?_
  intro p e s m args below meth c C hr
  have C : xj_C p s m args meth c G RX6 cX6_isStuck 1 := C
  show xj_X p l e { frames := 2, cells := 0, slots := 0, locals := 43 } s m args below meth c G 1 0 0 (MQ below (xw_Q G (some (.int q.2)) q.1) args s 0 0 (xg_A G)) h [some (.ref (xg_ad G k0))] 0 []
  unfold mX6_isStuck at hR
  refine xr_aload_n C dX6_isStuck_0 rfl ?_
  refine xr_iconst (v := 0) C dX6_isStuck_1 (by decide) ?_
  refine xr_putL C hk0 fl_RX6_28 pf_6_0 dX6_isStuck_2 hR (fun h1 hR => ?_)
  refine xr_aload_n C dX6_isStuck_5 rfl ?_
  refine xr_callVi C (st := []) [] cv_RX6_105 hk0 (fun _ zz9 => mcX6_stuck l G hk0 zz9) rfl ⟨Nat.le_of_ble_eq_true rfl, Nat.le_of_ble_eq_true rfl⟩ (Nat.le_of_ble_eq_true rfl) ⟨Nat.zero_le _, Nat.zero_le _⟩ rfl dX6_isStuck_6 hR (fun r2 hr2 hR => ?_)
  exact xr_zretG C hr dX6_isStuck_9 hR
end
section
def mX6_heldIn (k0 : Nat) (a1 : Int32) (h : xw_M) : Option (xw_M × Int32) := if xo_ix ((168 : Int32) + a1) 204 = true then some (h, (h (k0 + 5) (Int32.toNatClampNeg ((168 : Int32) + a1)))) else none
set_option maxHeartbeats 4000000 in
set_option maxRecDepth 100000 in
theorem mcX6_heldIn (l : Launch) (G : xw_G) {k0 : Nat} {a1 : Int32} (hk0 : xw_kd k0 = 6) {h : xw_M} {q : xw_M × Int32} (hR : mX6_heldIn k0 a1 h = some q) : xc_M l G yX6_heldIn cX6_heldIn 2 (some .int) 0 0 [.ref (xg_ad G k0), .int a1] h q.1 (some (.int q.2)) := by
  refine xc_of (by decide +kernel) rfl (Nat.le_of_ble_eq_true rfl) ?_
  intro p e s m args below meth c C hr
  have C : xj_C p s m args meth c G RX6 cX6_heldIn 2 := C
  show xj_X p l e { frames := 0, cells := 0, slots := 0, locals := 0 } s m args below meth c G 2 0 0 (MQ below (xw_Q G (some (.int q.2)) q.1) args s 0 0 (xg_A G)) h [some (.ref (xg_ad G k0)), some (.int a1)] 0 []
  unfold mX6_heldIn at hR
  refine xr_aload_n C dX6_heldIn_0 rfl ?_
  refine xr_get C hk0 fl_RX6_22 rfl dX6_heldIn_1 ?_
  refine xr_sipush (v := 168) C dX6_heldIn_4 (by decide) ?_
  refine xr_iload_n C dX6_heldIn_7 rfl ?_
  refine xr_iadd C dX6_heldIn_8 ?_
  refine xr_iald C (kp_6_7 hk0) (xj_ltN C (kp_6_7 hk0) (by decide)) rfl dX6_heldIn_9 hR (fun hR => ?_)
  exact xr_iret C hr dX6_heldIn_10 hR
end
section
def mX6_held (k0 : Nat) (a1 : Int32) (h : xw_M) : Option (xw_M × Int32) := xo_let (xw_st h k0 0 (0 : Int32)) fun h1 => (mX6_isChannel k0 a1 h1).bind fun r2 => (if r2.2 = 0 then (mX6_no k0 (1 : Int32) r2.1).bind fun r3 => some (r3.1, r3.2) else (mX6_heldIn k0 a1 r2.1).bind fun r4 => some (r4.1, r4.2))
set_option maxHeartbeats 4000000 in
set_option maxRecDepth 100000 in
theorem mcX6_held (l : Launch) (G : xw_G) {k0 : Nat} {a1 : Int32} (hk0 : xw_kd k0 = 6) {h : xw_M} {q : xw_M × Int32} (hR : mX6_held k0 a1 h = some q) : xc_M l G yX6_held cX6_held 2 (some .int) 2 43 [.ref (xg_ad G k0), .int a1] h q.1 (some (.int q.2)) := by
  refine xc_of (by decide +kernel) rfl (Nat.le_of_ble_eq_true rfl) ?_
  intro p e s m args below meth c C hr
  have C : xj_C p s m args meth c G RX6 cX6_held 2 := C
  show xj_X p l e { frames := 2, cells := 0, slots := 0, locals := 43 } s m args below meth c G 2 0 0 (MQ below (xw_Q G (some (.int q.2)) q.1) args s 0 0 (xg_A G)) h [some (.ref (xg_ad G k0)), some (.int a1)] 0 []
  unfold mX6_held at hR
  refine xr_aload_n C dX6_held_0 rfl ?_
  refine xr_iconst (v := 0) C dX6_held_1 (by decide) ?_
  refine xr_putL C hk0 fl_RX6_28 pf_6_0 dX6_held_2 hR (fun h1 hR => ?_)
  refine xr_aload_n C dX6_held_5 rfl ?_
  refine xr_iload_n C dX6_held_6 rfl ?_
  refine xr_callVi C (st := []) [.int a1] cv_RX6_82 hk0 (fun _ zz9 => mcX6_isChannel l G hk0 zz9) rfl ⟨Nat.le_of_ble_eq_true rfl, Nat.le_of_ble_eq_true rfl⟩ (Nat.le_of_ble_eq_true rfl) ⟨Nat.zero_le _, Nat.zero_le _⟩ rfl dX6_held_7 hR (fun r2 hr2 hR => ?_)
  refine xr_if_eq (tgt := 21) C dX6_held_10 (by decide) hR (fun hR => ?_) (fun hR => ?_)
  · refine xr_aload_n C dX6_held_21 rfl ?_
    refine xr_iconst (v := 1) C dX6_held_22 (by decide) ?_
    refine xr_callVi C (st := []) [.int (1 : Int32)] cv_RX6_79 hk0 (fun _ zz9 => mcX6_no l G hk0 zz9) rfl ⟨Nat.le_of_ble_eq_true rfl, Nat.le_of_ble_eq_true rfl⟩ (Nat.le_of_ble_eq_true rfl) ⟨Nat.zero_le _, Nat.zero_le _⟩ rfl dX6_held_23 hR (fun r3 hr3 hR => ?_)
    exact xr_iret C hr dX6_held_26 hR
  · refine xr_aload_n C dX6_held_13 rfl ?_
    refine xr_iload_n C dX6_held_14 rfl ?_
    refine xr_callVi C (st := []) [.int a1] cv_RX6_109 hk0 (fun _ zz9 => mcX6_heldIn l G hk0 zz9) rfl ⟨Nat.le_of_ble_eq_true rfl, Nat.le_of_ble_eq_true rfl⟩ (Nat.le_of_ble_eq_true rfl) ⟨Nat.zero_le _, Nat.zero_le _⟩ rfl dX6_held_15 hR (fun r4 hr4 hR => ?_)
    refine xr_goto (tgt := 26) C dX6_held_18 (by decide) ?_
    exact xr_iret C hr dX6_held_26 hR
end
section
def mX6_valueAt_b46  (k0 : Nat) (h : xw_M)  : Option (xw_M × Int32) := (mX6_no k0 (1 : Int32) h).bind fun r3 => some (r3.1, r3.2)
def mX6_valueAt (k0 : Nat) (a1 : Int32) (a2 : Int32) (h : xw_M) : Option (xw_M × Int32) := xo_let (xw_st h k0 0 (0 : Int32)) fun h1 => (mX6_isChannel k0 a1 h1).bind fun r2 => (if r2.2 = 0 then mX6_valueAt_b46  (k0) r2.1  else (mX6_heldIn k0 a1 r2.1).bind fun r4 => (mX6_isFrom a2 (0 : Int32) (r4.2 - (1 : Int32)) r4.1).bind fun r5 => (if r5.2 = 0 then mX6_valueAt_b46  (k0) r5.1  else if xo_ix (((172 : Int32) + ((8 : Int32) * a1)) + a2) 204 = true then some (r5.1, (r5.1 (k0 + 5) (Int32.toNatClampNeg (((172 : Int32) + ((8 : Int32) * a1)) + a2)))) else none))
set_option maxHeartbeats 4000000 in
set_option maxRecDepth 100000 in
theorem mbX6_valueAt_b46 {p : Program} {l : Launch} {e : Env} {s : State} {m : MethodId} {args : Array Value} {below : List Frame} {meth : Method} {c : Code} {G : xw_G} (C : xj_C p s m args meth c G RX6 cX6_valueAt 3) (hr : meth.sig.returnType = (some .int)) {q : xw_M × Int32} {k0 : Nat}  (hk0 : xw_kd k0 = 6) {h : xw_M}   (hR : mX6_valueAt_b46  k0 h  = some q) : xj_X p l e { frames := 2, cells := 0, slots := 0, locals := 43 } s m args below meth c G 3 0 0 (MQ below (xw_Q G (some (.int q.2)) q.1) args s 0 0 (xg_A G)) h [some (.ref (xg_ad G k0)), none, none] 46 [] := by
  unfold mX6_valueAt_b46 at hR
  refine xr_aload_n C dX6_valueAt_46 rfl ?_
  refine xr_iconst (v := 1) C dX6_valueAt_47 (by decide) ?_
  refine xr_callVi C (st := []) [.int (1 : Int32)] cv_RX6_79 hk0 (fun _ zz9 => mcX6_no l G hk0 zz9) rfl ⟨Nat.le_of_ble_eq_true rfl, Nat.le_of_ble_eq_true rfl⟩ (Nat.le_of_ble_eq_true rfl) ⟨Nat.zero_le _, Nat.zero_le _⟩ rfl dX6_valueAt_48 hR (fun r3 hr3 hR => ?_)
  exact xr_iret C hr dX6_valueAt_51 hR
set_option maxHeartbeats 4000000 in
set_option maxRecDepth 100000 in
theorem mcX6_valueAt (l : Launch) (G : xw_G) {k0 : Nat} {a1 : Int32} {a2 : Int32} (hk0 : xw_kd k0 = 6) {h : xw_M} {q : xw_M × Int32} (hR : mX6_valueAt k0 a1 a2 h = some q) : xc_M l G yX6_valueAt cX6_valueAt 3 (some .int) 2 43 [.ref (xg_ad G k0), .int a1, .int a2] h q.1 (some (.int q.2)) := by
  refine xc_of (by decide +kernel) rfl (Nat.le_of_ble_eq_true rfl) ?_
  intro p e s m args below meth c C hr
  have C : xj_C p s m args meth c G RX6 cX6_valueAt 3 := C
  show xj_X p l e { frames := 2, cells := 0, slots := 0, locals := 43 } s m args below meth c G 3 0 0 (MQ below (xw_Q G (some (.int q.2)) q.1) args s 0 0 (xg_A G)) h [some (.ref (xg_ad G k0)), some (.int a1), some (.int a2)] 0 []
  unfold mX6_valueAt at hR
  refine xr_aload_n C dX6_valueAt_0 rfl ?_
  refine xr_iconst (v := 0) C dX6_valueAt_1 (by decide) ?_
  refine xr_putL C hk0 fl_RX6_28 pf_6_0 dX6_valueAt_2 hR (fun h1 hR => ?_)
  refine xr_aload_n C dX6_valueAt_5 rfl ?_
  refine xr_iload_n C dX6_valueAt_6 rfl ?_
  refine xr_callVi C (st := []) [.int a1] cv_RX6_82 hk0 (fun _ zz9 => mcX6_isChannel l G hk0 zz9) rfl ⟨Nat.le_of_ble_eq_true rfl, Nat.le_of_ble_eq_true rfl⟩ (Nat.le_of_ble_eq_true rfl) ⟨Nat.zero_le _, Nat.zero_le _⟩ rfl dX6_valueAt_7 hR (fun r2 hr2 hR => ?_)
  refine xr_if_eq (tgt := 46) C dX6_valueAt_10 (by decide) hR (fun hR => ?_) (fun hR => ?_)
  · exact xr_sub (lv9 := [some (.ref (xg_ad G k0)), none, none]) (And.intro rfl trivial) (mbX6_valueAt_b46 C hr  hk0  hR)
  · refine xr_iload_n C dX6_valueAt_13 rfl ?_
    refine xr_iconst (v := 0) C dX6_valueAt_14 (by decide) ?_
    refine xr_aload_n C dX6_valueAt_15 rfl ?_
    refine xr_iload_n C dX6_valueAt_16 rfl ?_
    refine xr_callVi C (st := [.int (0 : Int32), .int a2]) [.int a1] cv_RX6_109 hk0 (fun _ zz9 => mcX6_heldIn l G hk0 zz9) rfl ⟨Nat.le_of_ble_eq_true rfl, Nat.le_of_ble_eq_true rfl⟩ (Nat.le_of_ble_eq_true rfl) ⟨Nat.zero_le _, Nat.zero_le _⟩ rfl dX6_valueAt_17 hR (fun r4 hr4 hR => ?_)
    refine xr_iconst (v := 1) C dX6_valueAt_20 (by decide) ?_
    refine xr_isub C dX6_valueAt_21 ?_
    refine xr_callSi C (st := []) [.int a2, .int (0 : Int32), .int (r4.2 - (1 : Int32))] cs_RX6_35 (fun _ zz9 => mcX6_isFrom l G  zz9) rfl ⟨Nat.le_of_ble_eq_true rfl, Nat.le_of_ble_eq_true rfl⟩ (Nat.le_of_ble_eq_true rfl) ⟨Nat.zero_le _, Nat.zero_le _⟩ rfl dX6_valueAt_22 hR (fun r5 hr5 hR => ?_)
    refine xr_if_eq (tgt := 46) C dX6_valueAt_25 (by decide) hR (fun hR => ?_) (fun hR => ?_)
    · exact xr_sub (lv9 := [some (.ref (xg_ad G k0)), none, none]) (And.intro rfl trivial) (mbX6_valueAt_b46 C hr  hk0  hR)
    · refine xr_aload_n C dX6_valueAt_28 rfl ?_
      refine xr_get C hk0 fl_RX6_22 rfl dX6_valueAt_29 ?_
      refine xr_sipush (v := 172) C dX6_valueAt_32 (by decide) ?_
      refine xr_bipush (v := 8) C dX6_valueAt_35 (by decide) ?_
      refine xr_iload_n C dX6_valueAt_37 rfl ?_
      refine xr_imul C dX6_valueAt_38 ?_
      refine xr_iadd C dX6_valueAt_39 ?_
      refine xr_iload_n C dX6_valueAt_40 rfl ?_
      refine xr_iadd C dX6_valueAt_41 ?_
      refine xr_iald C (kp_6_7 hk0) (xj_ltN C (kp_6_7 hk0) (by decide)) rfl dX6_valueAt_42 hR (fun hR => ?_)
      refine xr_goto (tgt := 51) C dX6_valueAt_43 (by decide) ?_
      exact xr_iret C hr dX6_valueAt_51 hR
end
section
def mX6_waiting_b31 (K5 : xw_M → Int32 → Int32 → Option (xw_M × Int32)) (k0 : Nat) (a1 : Int32) (a2 : Int32) (a4 : Int32) (h : xw_M) (as0 : Int32) (as1 : Int32) : Option (xw_M × Int32) := K5 h ((as1 + as0)) ((a4 + 1))
def mX6_waiting_b5  (k0 : Nat) (a1 : Int32) (a2 : Int32) : Nat → xw_M → Int32 → Int32 → Option (xw_M × Int32)
  | 0, _, _, _ => none
  | n + 1, h, a3, a4 => (if (h k0 2) ≤ a4 then some (h, a3) else (mX6_waits k0 a4 a2 a1 h).bind fun r1 => (if r1.2 = 0 then mX6_waiting_b31 (mX6_waiting_b5  k0 a1 a2 n) (k0) (a1) (a2) (a4) r1.1 ((0 : Int32)) (a3) else mX6_waiting_b31 (mX6_waiting_b5  k0 a1 a2 n) (k0) (a1) (a2) (a4) r1.1 ((1 : Int32)) (a3)))
def mX6_waiting (k0 : Nat) (a1 : Int32) (a2 : Int32) (h : xw_M) : Option (xw_M × Int32) := mX6_waiting_b5  (k0) (a1) (a2) xo_n h ((0 : Int32)) ((0 : Int32))
set_option maxHeartbeats 4000000 in
set_option maxRecDepth 100000 in
theorem mbX6_waiting_b31 {p : Program} {l : Launch} {e : Env} {s : State} {m : MethodId} {args : Array Value} {below : List Frame} {meth : Method} {c : Code} {G : xw_G} (C : xj_C p s m args meth c G RX6 cX6_waiting 5) (hr : meth.sig.returnType = (some .int)) {q : xw_M × Int32} {K5 : xw_M → Int32 → Int32 → Option (xw_M × Int32)} {k0 : Nat} {a1 : Int32} {a2 : Int32} {a4 : Int32} (hK5 : ∀ (h : xw_M) (a3 : Int32) (a4 : Int32), K5 h a3 a4 = some q → xj_X p l e { frames := 1, cells := 0, slots := 0, locals := 23 } s m args below meth c G 5 0 0 (MQ below (xw_Q G (some (.int q.2)) q.1) args s 0 0 (xg_A G)) h [some (.ref (xg_ad G k0)), some (.int a1), some (.int a2), some (.int a3), some (.int a4)] 5 []) (hk0 : xw_kd k0 = 6) {h : xw_M} {as0 : Int32} {as1 : Int32}   (hR : mX6_waiting_b31 K5 k0 a1 a2 a4 h as0 as1 = some q) : xj_X p l e { frames := 1, cells := 0, slots := 0, locals := 23 } s m args below meth c G 5 0 0 (MQ below (xw_Q G (some (.int q.2)) q.1) args s 0 0 (xg_A G)) h [some (.ref (xg_ad G k0)), some (.int a1), some (.int a2), none, some (.int a4)] 31 [.int as0, .int as1] := by
  unfold mX6_waiting_b31 at hR
  refine xr_iadd C dX6_waiting_31 ?_
  refine xr_istore_n C dX6_waiting_32 rfl (by decide) ?_
  refine xr_iinc (v := 1) C dX6_waiting_33 rfl (by decide) rfl (by decide) ?_
  refine xr_goto (tgt := 5) C dX6_waiting_36 (by decide) ?_
  exact xr_sub (lv9 := [some (.ref (xg_ad G k0)), some (.int a1), some (.int a2), some (.int (as1 + as0)), some (.int (a4 + 1))]) (And.intro rfl (And.intro rfl (And.intro rfl (And.intro rfl (And.intro rfl trivial))))) (hK5 _ _ _  hR)
set_option maxHeartbeats 4000000 in
set_option maxRecDepth 100000 in
theorem mbX6_waiting_b5 {p : Program} {l : Launch} {e : Env} {s : State} {m : MethodId} {args : Array Value} {below : List Frame} {meth : Method} {c : Code} {G : xw_G} (C : xj_C p s m args meth c G RX6 cX6_waiting 5) (hr : meth.sig.returnType = (some .int)) {q : xw_M × Int32} {k0 : Nat} {a1 : Int32} {a2 : Int32}  (hk0 : xw_kd k0 = 6) : ∀ (n : Nat) (h : xw_M) (a3 : Int32) (a4 : Int32), mX6_waiting_b5  k0 a1 a2 n h a3 a4 = some q → xj_X p l e { frames := 1, cells := 0, slots := 0, locals := 23 } s m args below meth c G 5 0 0 (MQ below (xw_Q G (some (.int q.2)) q.1) args s 0 0 (xg_A G)) h [some (.ref (xg_ad G k0)), some (.int a1), some (.int a2), some (.int a3), some (.int a4)] 5 [] := by
  intro n
  induction n with
  | zero => intro h a3 a4 hR; exact absurd (show (none : Option (xw_M × Int32)) = some q from hR) (fun z => by cases z)
  | succ n ih =>
    intro h a3 a4 hR
    rw [mX6_waiting_b5.eq_2] at hR
    refine xr_iload C dX6_waiting_5 rfl ?_
    refine xr_aload_n C dX6_waiting_7 rfl ?_
    refine xr_get C hk0 fl_RX6_39 rfl dX6_waiting_8 ?_
    refine xr_icmp_ge (tgt := 39) C dX6_waiting_11 (by decide) hR (fun hR => ?_) (fun hR => ?_)
    · refine xr_iload_n C dX6_waiting_39 rfl ?_
      exact xr_iret C hr dX6_waiting_40 hR
    · refine xr_iload_n C dX6_waiting_14 rfl ?_
      refine xr_aload_n C dX6_waiting_15 rfl ?_
      refine xr_iload C dX6_waiting_16 rfl ?_
      refine xr_iload_n C dX6_waiting_18 rfl ?_
      refine xr_iload_n C dX6_waiting_19 rfl ?_
      refine xr_callVi C (st := [.int a3]) [.int a4, .int a2, .int a1] cv_RX6_48 hk0 (fun _ zz9 => mcX6_waits l G hk0 zz9) rfl ⟨Nat.le_of_ble_eq_true rfl, Nat.le_of_ble_eq_true rfl⟩ (Nat.le_of_ble_eq_true rfl) ⟨Nat.zero_le _, Nat.zero_le _⟩ rfl dX6_waiting_20 hR (fun r1 hr1 hR => ?_)
      refine xr_if_eq (tgt := 30) C dX6_waiting_23 (by decide) hR (fun hR => ?_) (fun hR => ?_)
      · refine xr_iconst (v := 0) C dX6_waiting_30 (by decide) ?_
        exact xr_sub (lv9 := [some (.ref (xg_ad G k0)), some (.int a1), some (.int a2), none, some (.int a4)]) (And.intro rfl (And.intro rfl (And.intro rfl (And.intro rfl trivial)))) (mbX6_waiting_b31 C hr ih hk0  hR)
      · refine xr_iconst (v := 1) C dX6_waiting_26 (by decide) ?_
        refine xr_goto (tgt := 31) C dX6_waiting_27 (by decide) ?_
        exact xr_sub (lv9 := [some (.ref (xg_ad G k0)), some (.int a1), some (.int a2), none, some (.int a4)]) (And.intro rfl (And.intro rfl (And.intro rfl (And.intro rfl trivial)))) (mbX6_waiting_b31 C hr ih hk0  hR)
set_option maxHeartbeats 4000000 in
set_option maxRecDepth 100000 in
theorem mcX6_waiting (l : Launch) (G : xw_G) {k0 : Nat} {a1 : Int32} {a2 : Int32} (hk0 : xw_kd k0 = 6) {h : xw_M} {q : xw_M × Int32} (hR : mX6_waiting k0 a1 a2 h = some q) : xc_M l G yX6_waiting cX6_waiting 5 (some .int) 1 23 [.ref (xg_ad G k0), .int a1, .int a2] h q.1 (some (.int q.2)) := by
  refine xc_of (by decide +kernel) rfl (Nat.le_of_ble_eq_true rfl) ?_
  intro p e s m args below meth c C hr
  have C : xj_C p s m args meth c G RX6 cX6_waiting 5 := C
  show xj_X p l e { frames := 1, cells := 0, slots := 0, locals := 23 } s m args below meth c G 5 0 0 (MQ below (xw_Q G (some (.int q.2)) q.1) args s 0 0 (xg_A G)) h [some (.ref (xg_ad G k0)), some (.int a1), some (.int a2), none, none] 0 []
  unfold mX6_waiting at hR
  refine xr_iconst (v := 0) C dX6_waiting_0 (by decide) ?_
  refine xr_istore_n C dX6_waiting_1 rfl (by decide) ?_
  refine xr_iconst (v := 0) C dX6_waiting_2 (by decide) ?_
  refine xr_istore C dX6_waiting_3 rfl (by decide) ?_
  exact xr_sub (lv9 := [some (.ref (xg_ad G k0)), some (.int a1), some (.int a2), some (.int (0 : Int32)), some (.int (0 : Int32))]) (And.intro rfl (And.intro rfl (And.intro rfl (And.intro rfl (And.intro rfl trivial))))) (mbX6_waiting_b5 C hr  hk0 _ _ _ _  hR)
end
section
def mX6_sendersAt (k0 : Nat) (a1 : Int32) (h : xw_M) : Option (xw_M × Int32) := xo_let (xw_st h k0 0 (0 : Int32)) fun h1 => (mX6_isChannel k0 a1 h1).bind fun r2 => (if r2.2 = 0 then (mX6_no k0 (1 : Int32) r2.1).bind fun r3 => some (r3.1, r3.2) else (mX6_waiting k0 a1 (1 : Int32) r2.1).bind fun r4 => some (r4.1, r4.2))
set_option maxHeartbeats 4000000 in
set_option maxRecDepth 100000 in
theorem mcX6_sendersAt (l : Launch) (G : xw_G) {k0 : Nat} {a1 : Int32} (hk0 : xw_kd k0 = 6) {h : xw_M} {q : xw_M × Int32} (hR : mX6_sendersAt k0 a1 h = some q) : xc_M l G yX6_sendersAt cX6_sendersAt 2 (some .int) 2 47 [.ref (xg_ad G k0), .int a1] h q.1 (some (.int q.2)) := by
  refine xc_of (by decide +kernel) rfl (Nat.le_of_ble_eq_true rfl) ?_
  intro p e s m args below meth c C hr
  have C : xj_C p s m args meth c G RX6 cX6_sendersAt 2 := C
  show xj_X p l e { frames := 2, cells := 0, slots := 0, locals := 47 } s m args below meth c G 2 0 0 (MQ below (xw_Q G (some (.int q.2)) q.1) args s 0 0 (xg_A G)) h [some (.ref (xg_ad G k0)), some (.int a1)] 0 []
  unfold mX6_sendersAt at hR
  refine xr_aload_n C dX6_sendersAt_0 rfl ?_
  refine xr_iconst (v := 0) C dX6_sendersAt_1 (by decide) ?_
  refine xr_putL C hk0 fl_RX6_28 pf_6_0 dX6_sendersAt_2 hR (fun h1 hR => ?_)
  refine xr_aload_n C dX6_sendersAt_5 rfl ?_
  refine xr_iload_n C dX6_sendersAt_6 rfl ?_
  refine xr_callVi C (st := []) [.int a1] cv_RX6_82 hk0 (fun _ zz9 => mcX6_isChannel l G hk0 zz9) rfl ⟨Nat.le_of_ble_eq_true rfl, Nat.le_of_ble_eq_true rfl⟩ (Nat.le_of_ble_eq_true rfl) ⟨Nat.zero_le _, Nat.zero_le _⟩ rfl dX6_sendersAt_7 hR (fun r2 hr2 hR => ?_)
  refine xr_if_eq (tgt := 22) C dX6_sendersAt_10 (by decide) hR (fun hR => ?_) (fun hR => ?_)
  · refine xr_aload_n C dX6_sendersAt_22 rfl ?_
    refine xr_iconst (v := 1) C dX6_sendersAt_23 (by decide) ?_
    refine xr_callVi C (st := []) [.int (1 : Int32)] cv_RX6_79 hk0 (fun _ zz9 => mcX6_no l G hk0 zz9) rfl ⟨Nat.le_of_ble_eq_true rfl, Nat.le_of_ble_eq_true rfl⟩ (Nat.le_of_ble_eq_true rfl) ⟨Nat.zero_le _, Nat.zero_le _⟩ rfl dX6_sendersAt_24 hR (fun r3 hr3 hR => ?_)
    exact xr_iret C hr dX6_sendersAt_27 hR
  · refine xr_aload_n C dX6_sendersAt_13 rfl ?_
    refine xr_iload_n C dX6_sendersAt_14 rfl ?_
    refine xr_iconst (v := 1) C dX6_sendersAt_15 (by decide) ?_
    refine xr_callVi C (st := []) [.int a1, .int (1 : Int32)] cv_RX6_112 hk0 (fun _ zz9 => mcX6_waiting l G hk0 zz9) rfl ⟨Nat.le_of_ble_eq_true rfl, Nat.le_of_ble_eq_true rfl⟩ (Nat.le_of_ble_eq_true rfl) ⟨Nat.zero_le _, Nat.zero_le _⟩ rfl dX6_sendersAt_16 hR (fun r4 hr4 hR => ?_)
    refine xr_goto (tgt := 27) C dX6_sendersAt_19 (by decide) ?_
    exact xr_iret C hr dX6_sendersAt_27 hR
end
section
def mX6_takersAt (k0 : Nat) (a1 : Int32) (h : xw_M) : Option (xw_M × Int32) := xo_let (xw_st h k0 0 (0 : Int32)) fun h1 => (mX6_isChannel k0 a1 h1).bind fun r2 => (if r2.2 = 0 then (mX6_no k0 (1 : Int32) r2.1).bind fun r3 => some (r3.1, r3.2) else (mX6_waiting k0 a1 (2 : Int32) r2.1).bind fun r4 => some (r4.1, r4.2))
set_option maxHeartbeats 4000000 in
set_option maxRecDepth 100000 in
theorem mcX6_takersAt (l : Launch) (G : xw_G) {k0 : Nat} {a1 : Int32} (hk0 : xw_kd k0 = 6) {h : xw_M} {q : xw_M × Int32} (hR : mX6_takersAt k0 a1 h = some q) : xc_M l G yX6_takersAt cX6_takersAt 2 (some .int) 2 47 [.ref (xg_ad G k0), .int a1] h q.1 (some (.int q.2)) := by
  refine xc_of (by decide +kernel) rfl (Nat.le_of_ble_eq_true rfl) ?_
  intro p e s m args below meth c C hr
  have C : xj_C p s m args meth c G RX6 cX6_takersAt 2 := C
  show xj_X p l e { frames := 2, cells := 0, slots := 0, locals := 47 } s m args below meth c G 2 0 0 (MQ below (xw_Q G (some (.int q.2)) q.1) args s 0 0 (xg_A G)) h [some (.ref (xg_ad G k0)), some (.int a1)] 0 []
  unfold mX6_takersAt at hR
  refine xr_aload_n C dX6_takersAt_0 rfl ?_
  refine xr_iconst (v := 0) C dX6_takersAt_1 (by decide) ?_
  refine xr_putL C hk0 fl_RX6_28 pf_6_0 dX6_takersAt_2 hR (fun h1 hR => ?_)
  refine xr_aload_n C dX6_takersAt_5 rfl ?_
  refine xr_iload_n C dX6_takersAt_6 rfl ?_
  refine xr_callVi C (st := []) [.int a1] cv_RX6_82 hk0 (fun _ zz9 => mcX6_isChannel l G hk0 zz9) rfl ⟨Nat.le_of_ble_eq_true rfl, Nat.le_of_ble_eq_true rfl⟩ (Nat.le_of_ble_eq_true rfl) ⟨Nat.zero_le _, Nat.zero_le _⟩ rfl dX6_takersAt_7 hR (fun r2 hr2 hR => ?_)
  refine xr_if_eq (tgt := 22) C dX6_takersAt_10 (by decide) hR (fun hR => ?_) (fun hR => ?_)
  · refine xr_aload_n C dX6_takersAt_22 rfl ?_
    refine xr_iconst (v := 1) C dX6_takersAt_23 (by decide) ?_
    refine xr_callVi C (st := []) [.int (1 : Int32)] cv_RX6_79 hk0 (fun _ zz9 => mcX6_no l G hk0 zz9) rfl ⟨Nat.le_of_ble_eq_true rfl, Nat.le_of_ble_eq_true rfl⟩ (Nat.le_of_ble_eq_true rfl) ⟨Nat.zero_le _, Nat.zero_le _⟩ rfl dX6_takersAt_24 hR (fun r3 hr3 hR => ?_)
    exact xr_iret C hr dX6_takersAt_27 hR
  · refine xr_aload_n C dX6_takersAt_13 rfl ?_
    refine xr_iload_n C dX6_takersAt_14 rfl ?_
    refine xr_iconst (v := 2) C dX6_takersAt_15 (by decide) ?_
    refine xr_callVi C (st := []) [.int a1, .int (2 : Int32)] cv_RX6_112 hk0 (fun _ zz9 => mcX6_waiting l G hk0 zz9) rfl ⟨Nat.le_of_ble_eq_true rfl, Nat.le_of_ble_eq_true rfl⟩ (Nat.le_of_ble_eq_true rfl) ⟨Nat.zero_le _, Nat.zero_le _⟩ rfl dX6_takersAt_16 hR (fun r4 hr4 hR => ?_)
    refine xr_goto (tgt := 27) C dX6_takersAt_19 (by decide) ?_
    exact xr_iret C hr dX6_takersAt_27 hR
end
section
def mX6_ofFiber (k0 : Nat) (a1 : Int32) (a2 : Int32) (h : xw_M) : Option (xw_M × Int32) := xo_let (xw_st h k0 0 (0 : Int32)) fun h1 => (mX6_isFiber k0 a1 h1).bind fun r2 => (if r2.2 = 0 then (mX6_no k0 (1 : Int32) r2.1).bind fun r3 => some (r3.1, r3.2) else if xo_ix (a2 + a1) 204 = true then some (r2.1, (r2.1 (k0 + 5) (Int32.toNatClampNeg (a2 + a1)))) else none)
set_option maxHeartbeats 4000000 in
set_option maxRecDepth 100000 in
theorem mcX6_ofFiber (l : Launch) (G : xw_G) {k0 : Nat} {a1 : Int32} {a2 : Int32} (hk0 : xw_kd k0 = 6) {h : xw_M} {q : xw_M × Int32} (hR : mX6_ofFiber k0 a1 a2 h = some q) : xc_M l G yX6_ofFiber cX6_ofFiber 3 (some .int) 2 43 [.ref (xg_ad G k0), .int a1, .int a2] h q.1 (some (.int q.2)) := by
  refine xc_of (by decide +kernel) rfl (Nat.le_of_ble_eq_true rfl) ?_
  intro p e s m args below meth c C hr
  have C : xj_C p s m args meth c G RX6 cX6_ofFiber 3 := C
  show xj_X p l e { frames := 2, cells := 0, slots := 0, locals := 43 } s m args below meth c G 3 0 0 (MQ below (xw_Q G (some (.int q.2)) q.1) args s 0 0 (xg_A G)) h [some (.ref (xg_ad G k0)), some (.int a1), some (.int a2)] 0 []
  unfold mX6_ofFiber at hR
  refine xr_aload_n C dX6_ofFiber_0 rfl ?_
  refine xr_iconst (v := 0) C dX6_ofFiber_1 (by decide) ?_
  refine xr_putL C hk0 fl_RX6_28 pf_6_0 dX6_ofFiber_2 hR (fun h1 hR => ?_)
  refine xr_aload_n C dX6_ofFiber_5 rfl ?_
  refine xr_iload_n C dX6_ofFiber_6 rfl ?_
  refine xr_callVi C (st := []) [.int a1] cv_RX6_85 hk0 (fun _ zz9 => mcX6_isFiber l G hk0 zz9) rfl ⟨Nat.le_of_ble_eq_true rfl, Nat.le_of_ble_eq_true rfl⟩ (Nat.le_of_ble_eq_true rfl) ⟨Nat.zero_le _, Nat.zero_le _⟩ rfl dX6_ofFiber_7 hR (fun r2 hr2 hR => ?_)
  refine xr_if_eq (tgt := 24) C dX6_ofFiber_10 (by decide) hR (fun hR => ?_) (fun hR => ?_)
  · refine xr_aload_n C dX6_ofFiber_24 rfl ?_
    refine xr_iconst (v := 1) C dX6_ofFiber_25 (by decide) ?_
    refine xr_callVi C (st := []) [.int (1 : Int32)] cv_RX6_79 hk0 (fun _ zz9 => mcX6_no l G hk0 zz9) rfl ⟨Nat.le_of_ble_eq_true rfl, Nat.le_of_ble_eq_true rfl⟩ (Nat.le_of_ble_eq_true rfl) ⟨Nat.zero_le _, Nat.zero_le _⟩ rfl dX6_ofFiber_26 hR (fun r3 hr3 hR => ?_)
    exact xr_iret C hr dX6_ofFiber_29 hR
  · refine xr_aload_n C dX6_ofFiber_13 rfl ?_
    refine xr_get C hk0 fl_RX6_22 rfl dX6_ofFiber_14 ?_
    refine xr_iload_n C dX6_ofFiber_17 rfl ?_
    refine xr_iload_n C dX6_ofFiber_18 rfl ?_
    refine xr_iadd C dX6_ofFiber_19 ?_
    refine xr_iald C (kp_6_7 hk0) (xj_ltN C (kp_6_7 hk0) (by decide)) rfl dX6_ofFiber_20 hR (fun hR => ?_)
    refine xr_goto (tgt := 29) C dX6_ofFiber_21 (by decide) ?_
    exact xr_iret C hr dX6_ofFiber_29 hR
end
section
def mX6_stateOf (k0 : Nat) (a1 : Int32) (h : xw_M) : Option (xw_M × Int32) := (mX6_ofFiber k0 a1 (12 : Int32) h).bind fun r1 => some (r1.1, r1.2)
set_option maxHeartbeats 4000000 in
set_option maxRecDepth 100000 in
theorem mcX6_stateOf (l : Launch) (G : xw_G) {k0 : Nat} {a1 : Int32} (hk0 : xw_kd k0 = 6) {h : xw_M} {q : xw_M × Int32} (hR : mX6_stateOf k0 a1 h = some q) : xc_M l G yX6_stateOf cX6_stateOf 2 (some .int) 3 65 [.ref (xg_ad G k0), .int a1] h q.1 (some (.int q.2)) := by
  refine xc_of (by decide +kernel) rfl (Nat.le_of_ble_eq_true rfl) ?_
  intro p e s m args below meth c C hr
  have C : xj_C p s m args meth c G RX6 cX6_stateOf 2 := C
  show xj_X p l e { frames := 3, cells := 0, slots := 0, locals := 65 } s m args below meth c G 2 0 0 (MQ below (xw_Q G (some (.int q.2)) q.1) args s 0 0 (xg_A G)) h [some (.ref (xg_ad G k0)), some (.int a1)] 0 []
  unfold mX6_stateOf at hR
  refine xr_aload_n C dX6_stateOf_0 rfl ?_
  refine xr_iload_n C dX6_stateOf_1 rfl ?_
  refine xr_bipush (v := 12) C dX6_stateOf_2 (by decide) ?_
  refine xr_callVi C (st := []) [.int a1, .int (12 : Int32)] cv_RX6_116 hk0 (fun _ zz9 => mcX6_ofFiber l G hk0 zz9) rfl ⟨Nat.le_of_ble_eq_true rfl, Nat.le_of_ble_eq_true rfl⟩ (Nat.le_of_ble_eq_true rfl) ⟨Nat.zero_le _, Nat.zero_le _⟩ rfl dX6_stateOf_4 hR (fun r1 hr1 hR => ?_)
  exact xr_iret C hr dX6_stateOf_7 hR
end
section
def mX6_placeOf (k0 : Nat) (a1 : Int32) (h : xw_M) : Option (xw_M × Int32) := (mX6_ofFiber k0 a1 (20 : Int32) h).bind fun r1 => some (r1.1, r1.2)
set_option maxHeartbeats 4000000 in
set_option maxRecDepth 100000 in
theorem mcX6_placeOf (l : Launch) (G : xw_G) {k0 : Nat} {a1 : Int32} (hk0 : xw_kd k0 = 6) {h : xw_M} {q : xw_M × Int32} (hR : mX6_placeOf k0 a1 h = some q) : xc_M l G yX6_placeOf cX6_placeOf 2 (some .int) 3 65 [.ref (xg_ad G k0), .int a1] h q.1 (some (.int q.2)) := by
  refine xc_of (by decide +kernel) rfl (Nat.le_of_ble_eq_true rfl) ?_
  intro p e s m args below meth c C hr
  have C : xj_C p s m args meth c G RX6 cX6_placeOf 2 := C
  show xj_X p l e { frames := 3, cells := 0, slots := 0, locals := 65 } s m args below meth c G 2 0 0 (MQ below (xw_Q G (some (.int q.2)) q.1) args s 0 0 (xg_A G)) h [some (.ref (xg_ad G k0)), some (.int a1)] 0 []
  unfold mX6_placeOf at hR
  refine xr_aload_n C dX6_placeOf_0 rfl ?_
  refine xr_iload_n C dX6_placeOf_1 rfl ?_
  refine xr_bipush (v := 20) C dX6_placeOf_2 (by decide) ?_
  refine xr_callVi C (st := []) [.int a1, .int (20 : Int32)] cv_RX6_116 hk0 (fun _ zz9 => mcX6_ofFiber l G hk0 zz9) rfl ⟨Nat.le_of_ble_eq_true rfl, Nat.le_of_ble_eq_true rfl⟩ (Nat.le_of_ble_eq_true rfl) ⟨Nat.zero_le _, Nat.zero_le _⟩ rfl dX6_placeOf_4 hR (fun r1 hr1 hR => ?_)
  exact xr_iret C hr dX6_placeOf_7 hR
end
section
def mX6_sumOf (k0 : Nat) (a1 : Int32) (h : xw_M) : Option (xw_M × Int32) := (mX6_ofFiber k0 a1 (28 : Int32) h).bind fun r1 => some (r1.1, r1.2)
set_option maxHeartbeats 4000000 in
set_option maxRecDepth 100000 in
theorem mcX6_sumOf (l : Launch) (G : xw_G) {k0 : Nat} {a1 : Int32} (hk0 : xw_kd k0 = 6) {h : xw_M} {q : xw_M × Int32} (hR : mX6_sumOf k0 a1 h = some q) : xc_M l G yX6_sumOf cX6_sumOf 2 (some .int) 3 65 [.ref (xg_ad G k0), .int a1] h q.1 (some (.int q.2)) := by
  refine xc_of (by decide +kernel) rfl (Nat.le_of_ble_eq_true rfl) ?_
  intro p e s m args below meth c C hr
  have C : xj_C p s m args meth c G RX6 cX6_sumOf 2 := C
  show xj_X p l e { frames := 3, cells := 0, slots := 0, locals := 65 } s m args below meth c G 2 0 0 (MQ below (xw_Q G (some (.int q.2)) q.1) args s 0 0 (xg_A G)) h [some (.ref (xg_ad G k0)), some (.int a1)] 0 []
  unfold mX6_sumOf at hR
  refine xr_aload_n C dX6_sumOf_0 rfl ?_
  refine xr_iload_n C dX6_sumOf_1 rfl ?_
  refine xr_bipush (v := 28) C dX6_sumOf_2 (by decide) ?_
  refine xr_callVi C (st := []) [.int a1, .int (28 : Int32)] cv_RX6_116 hk0 (fun _ zz9 => mcX6_ofFiber l G hk0 zz9) rfl ⟨Nat.le_of_ble_eq_true rfl, Nat.le_of_ble_eq_true rfl⟩ (Nat.le_of_ble_eq_true rfl) ⟨Nat.zero_le _, Nat.zero_le _⟩ rfl dX6_sumOf_4 hR (fun r1 hr1 hR => ?_)
  exact xr_iret C hr dX6_sumOf_7 hR
end
section
def mX6_stepsDone (k0 : Nat) (a1 : Int32) (h : xw_M) : Option (xw_M × Int32) := (mX6_ofFiber k0 a1 (36 : Int32) h).bind fun r1 => some (r1.1, r1.2)
set_option maxHeartbeats 4000000 in
set_option maxRecDepth 100000 in
theorem mcX6_stepsDone (l : Launch) (G : xw_G) {k0 : Nat} {a1 : Int32} (hk0 : xw_kd k0 = 6) {h : xw_M} {q : xw_M × Int32} (hR : mX6_stepsDone k0 a1 h = some q) : xc_M l G yX6_stepsDone cX6_stepsDone 2 (some .int) 3 65 [.ref (xg_ad G k0), .int a1] h q.1 (some (.int q.2)) := by
  refine xc_of (by decide +kernel) rfl (Nat.le_of_ble_eq_true rfl) ?_
  intro p e s m args below meth c C hr
  have C : xj_C p s m args meth c G RX6 cX6_stepsDone 2 := C
  show xj_X p l e { frames := 3, cells := 0, slots := 0, locals := 65 } s m args below meth c G 2 0 0 (MQ below (xw_Q G (some (.int q.2)) q.1) args s 0 0 (xg_A G)) h [some (.ref (xg_ad G k0)), some (.int a1)] 0 []
  unfold mX6_stepsDone at hR
  refine xr_aload_n C dX6_stepsDone_0 rfl ?_
  refine xr_iload_n C dX6_stepsDone_1 rfl ?_
  refine xr_bipush (v := 36) C dX6_stepsDone_2 (by decide) ?_
  refine xr_callVi C (st := []) [.int a1, .int (36 : Int32)] cv_RX6_116 hk0 (fun _ zz9 => mcX6_ofFiber l G hk0 zz9) rfl ⟨Nat.le_of_ble_eq_true rfl, Nat.le_of_ble_eq_true rfl⟩ (Nat.le_of_ble_eq_true rfl) ⟨Nat.zero_le _, Nat.zero_le _⟩ rfl dX6_stepsDone_4 hR (fun r1 hr1 hR => ?_)
  exact xr_iret C hr dX6_stepsDone_7 hR
end
section
def mX6_turnsOf (k0 : Nat) (a1 : Int32) (h : xw_M) : Option (xw_M × Int32) := (mX6_ofFiber k0 a1 (44 : Int32) h).bind fun r1 => some (r1.1, r1.2)
set_option maxHeartbeats 4000000 in
set_option maxRecDepth 100000 in
theorem mcX6_turnsOf (l : Launch) (G : xw_G) {k0 : Nat} {a1 : Int32} (hk0 : xw_kd k0 = 6) {h : xw_M} {q : xw_M × Int32} (hR : mX6_turnsOf k0 a1 h = some q) : xc_M l G yX6_turnsOf cX6_turnsOf 2 (some .int) 3 65 [.ref (xg_ad G k0), .int a1] h q.1 (some (.int q.2)) := by
  refine xc_of (by decide +kernel) rfl (Nat.le_of_ble_eq_true rfl) ?_
  intro p e s m args below meth c C hr
  have C : xj_C p s m args meth c G RX6 cX6_turnsOf 2 := C
  show xj_X p l e { frames := 3, cells := 0, slots := 0, locals := 65 } s m args below meth c G 2 0 0 (MQ below (xw_Q G (some (.int q.2)) q.1) args s 0 0 (xg_A G)) h [some (.ref (xg_ad G k0)), some (.int a1)] 0 []
  unfold mX6_turnsOf at hR
  refine xr_aload_n C dX6_turnsOf_0 rfl ?_
  refine xr_iload_n C dX6_turnsOf_1 rfl ?_
  refine xr_bipush (v := 44) C dX6_turnsOf_2 (by decide) ?_
  refine xr_callVi C (st := []) [.int a1, .int (44 : Int32)] cv_RX6_116 hk0 (fun _ zz9 => mcX6_ofFiber l G hk0 zz9) rfl ⟨Nat.le_of_ble_eq_true rfl, Nat.le_of_ble_eq_true rfl⟩ (Nat.le_of_ble_eq_true rfl) ⟨Nat.zero_le _, Nat.zero_le _⟩ rfl dX6_turnsOf_4 hR (fun r1 hr1 hR => ?_)
  exact xr_iret C hr dX6_turnsOf_7 hR
end
section
def mX6_inLine_b2  (k0 : Nat) (a1 : Int32) : Nat → xw_M → Int32 → Option (xw_M × Int32)
  | 0, _, _ => none
  | n + 1, h, a2 => (if (h (k0 + 5) (Int32.toNatClampNeg (3 : Int32))) ≤ a2 then some (h, (-1 : Int32)) else if xo_ix ((4 : Int32) + a2) 204 = true then (if (h (k0 + 5) (Int32.toNatClampNeg ((4 : Int32) + a2))) = a1 then some (h, a2) else mX6_inLine_b2  k0 a1 n h ((a2 + 1))) else none)
def mX6_inLine (k0 : Nat) (a1 : Int32) (h : xw_M) : Option (xw_M × Int32) := mX6_inLine_b2  (k0) (a1) xo_n h ((0 : Int32))
set_option maxHeartbeats 4000000 in
set_option maxRecDepth 100000 in
theorem mbX6_inLine_b2 {p : Program} {l : Launch} {e : Env} {s : State} {m : MethodId} {args : Array Value} {below : List Frame} {meth : Method} {c : Code} {G : xw_G} (C : xj_C p s m args meth c G RX6 cX6_inLine 3) (hr : meth.sig.returnType = (some .int)) {q : xw_M × Int32} {k0 : Nat} {a1 : Int32}  (hk0 : xw_kd k0 = 6) : ∀ (n : Nat) (h : xw_M) (a2 : Int32), mX6_inLine_b2  k0 a1 n h a2 = some q → xj_X p l e { frames := 0, cells := 0, slots := 0, locals := 0 } s m args below meth c G 3 0 0 (MQ below (xw_Q G (some (.int q.2)) q.1) args s 0 0 (xg_A G)) h [some (.ref (xg_ad G k0)), some (.int a1), some (.int a2)] 2 [] := by
  intro n
  induction n with
  | zero => intro h a2 hR; exact absurd (show (none : Option (xw_M × Int32)) = some q from hR) (fun z => by cases z)
  | succ n ih =>
    intro h a2 hR
    rw [mX6_inLine_b2.eq_2] at hR
    refine xr_iload_n C dX6_inLine_2 rfl ?_
    refine xr_aload_n C dX6_inLine_3 rfl ?_
    refine xr_get C hk0 fl_RX6_22 rfl dX6_inLine_4 ?_
    refine xr_iconst (v := 3) C dX6_inLine_7 (by decide) ?_
    refine xr_ialdC C (kp_6_7 hk0) (xj_ltN C (kp_6_7 hk0) (by decide)) rfl (by decide) dX6_inLine_8 ?_
    refine xr_icmp_ge (tgt := 32) C dX6_inLine_9 (by decide) hR (fun hR => ?_) (fun hR => ?_)
    · refine xr_iconst (v := (-1)) C dX6_inLine_32 (by decide) ?_
      exact xr_iret C hr dX6_inLine_33 hR
    · refine xr_aload_n C dX6_inLine_12 rfl ?_
      refine xr_get C hk0 fl_RX6_22 rfl dX6_inLine_13 ?_
      refine xr_iconst (v := 4) C dX6_inLine_16 (by decide) ?_
      refine xr_iload_n C dX6_inLine_17 rfl ?_
      refine xr_iadd C dX6_inLine_18 ?_
      refine xr_iald C (kp_6_7 hk0) (xj_ltN C (kp_6_7 hk0) (by decide)) rfl dX6_inLine_19 hR (fun hR => ?_)
      refine xr_iload_n C dX6_inLine_20 rfl ?_
      refine xr_icmp_ne (tgt := 26) C dX6_inLine_21 (by decide) hR (fun hR => ?_) (fun hR => ?_)
      · refine xr_iinc (v := 1) C dX6_inLine_26 rfl (by decide) rfl (by decide) ?_
        refine xr_goto (tgt := 2) C dX6_inLine_29 (by decide) ?_
        exact xr_sub (lv9 := [some (.ref (xg_ad G k0)), some (.int a1), some (.int (a2 + 1))]) (And.intro rfl (And.intro rfl (And.intro rfl trivial))) (ih _ _  hR)
      · refine xr_iload_n C dX6_inLine_24 rfl ?_
        exact xr_iret C hr dX6_inLine_25 hR
set_option maxHeartbeats 4000000 in
set_option maxRecDepth 100000 in
theorem mcX6_inLine (l : Launch) (G : xw_G) {k0 : Nat} {a1 : Int32} (hk0 : xw_kd k0 = 6) {h : xw_M} {q : xw_M × Int32} (hR : mX6_inLine k0 a1 h = some q) : xc_M l G yX6_inLine cX6_inLine 3 (some .int) 0 0 [.ref (xg_ad G k0), .int a1] h q.1 (some (.int q.2)) := by
  refine xc_of (by decide +kernel) rfl (Nat.le_of_ble_eq_true rfl) ?_
  intro p e s m args below meth c C hr
  have C : xj_C p s m args meth c G RX6 cX6_inLine 3 := C
  show xj_X p l e { frames := 0, cells := 0, slots := 0, locals := 0 } s m args below meth c G 3 0 0 (MQ below (xw_Q G (some (.int q.2)) q.1) args s 0 0 (xg_A G)) h [some (.ref (xg_ad G k0)), some (.int a1), none] 0 []
  unfold mX6_inLine at hR
  refine xr_iconst (v := 0) C dX6_inLine_0 (by decide) ?_
  refine xr_istore_n C dX6_inLine_1 rfl (by decide) ?_
  exact xr_sub (lv9 := [some (.ref (xg_ad G k0)), some (.int a1), some (.int (0 : Int32))]) (And.intro rfl (And.intro rfl (And.intro rfl trivial))) (mbX6_inLine_b2 C hr  hk0 _ _ _  hR)
end
section
def mX6_placeInLine (k0 : Nat) (a1 : Int32) (h : xw_M) : Option (xw_M × Int32) := xo_let (xw_st h k0 0 (0 : Int32)) fun h1 => (mX6_isFiber k0 a1 h1).bind fun r2 => (if r2.2 = 0 then (mX6_no k0 (1 : Int32) r2.1).bind fun r3 => some (r3.1, r3.2) else (mX6_inLine k0 a1 r2.1).bind fun r4 => some (r4.1, r4.2))
set_option maxHeartbeats 4000000 in
set_option maxRecDepth 100000 in
theorem mcX6_placeInLine (l : Launch) (G : xw_G) {k0 : Nat} {a1 : Int32} (hk0 : xw_kd k0 = 6) {h : xw_M} {q : xw_M × Int32} (hR : mX6_placeInLine k0 a1 h = some q) : xc_M l G yX6_placeInLine cX6_placeInLine 2 (some .int) 2 43 [.ref (xg_ad G k0), .int a1] h q.1 (some (.int q.2)) := by
  refine xc_of (by decide +kernel) rfl (Nat.le_of_ble_eq_true rfl) ?_
  intro p e s m args below meth c C hr
  have C : xj_C p s m args meth c G RX6 cX6_placeInLine 2 := C
  show xj_X p l e { frames := 2, cells := 0, slots := 0, locals := 43 } s m args below meth c G 2 0 0 (MQ below (xw_Q G (some (.int q.2)) q.1) args s 0 0 (xg_A G)) h [some (.ref (xg_ad G k0)), some (.int a1)] 0 []
  unfold mX6_placeInLine at hR
  refine xr_aload_n C dX6_placeInLine_0 rfl ?_
  refine xr_iconst (v := 0) C dX6_placeInLine_1 (by decide) ?_
  refine xr_putL C hk0 fl_RX6_28 pf_6_0 dX6_placeInLine_2 hR (fun h1 hR => ?_)
  refine xr_aload_n C dX6_placeInLine_5 rfl ?_
  refine xr_iload_n C dX6_placeInLine_6 rfl ?_
  refine xr_callVi C (st := []) [.int a1] cv_RX6_85 hk0 (fun _ zz9 => mcX6_isFiber l G hk0 zz9) rfl ⟨Nat.le_of_ble_eq_true rfl, Nat.le_of_ble_eq_true rfl⟩ (Nat.le_of_ble_eq_true rfl) ⟨Nat.zero_le _, Nat.zero_le _⟩ rfl dX6_placeInLine_7 hR (fun r2 hr2 hR => ?_)
  refine xr_if_eq (tgt := 21) C dX6_placeInLine_10 (by decide) hR (fun hR => ?_) (fun hR => ?_)
  · refine xr_aload_n C dX6_placeInLine_21 rfl ?_
    refine xr_iconst (v := 1) C dX6_placeInLine_22 (by decide) ?_
    refine xr_callVi C (st := []) [.int (1 : Int32)] cv_RX6_79 hk0 (fun _ zz9 => mcX6_no l G hk0 zz9) rfl ⟨Nat.le_of_ble_eq_true rfl, Nat.le_of_ble_eq_true rfl⟩ (Nat.le_of_ble_eq_true rfl) ⟨Nat.zero_le _, Nat.zero_le _⟩ rfl dX6_placeInLine_23 hR (fun r3 hr3 hR => ?_)
    exact xr_iret C hr dX6_placeInLine_26 hR
  · refine xr_aload_n C dX6_placeInLine_13 rfl ?_
    refine xr_iload_n C dX6_placeInLine_14 rfl ?_
    refine xr_callVi C (st := []) [.int a1] cv_RX6_119 hk0 (fun _ zz9 => mcX6_inLine l G hk0 zz9) rfl ⟨Nat.le_of_ble_eq_true rfl, Nat.le_of_ble_eq_true rfl⟩ (Nat.le_of_ble_eq_true rfl) ⟨Nat.zero_le _, Nat.zero_le _⟩ rfl dX6_placeInLine_15 hR (fun r4 hr4 hR => ?_)
    refine xr_goto (tgt := 26) C dX6_placeInLine_18 (by decide) ?_
    exact xr_iret C hr dX6_placeInLine_26 hR
end
section
def mX6_untilDone_b36  (k0 : Nat) (a2 : Int32) (h : xw_M)  : Option (xw_M × Int32) := (mX6_bringBack k0 h).bind fun r2 => (if a2 ≤ (200 : Int32) then some (r2.1, a2) else some (r2.1, (-1 : Int32)))
def mX6_untilDone_b6  (k0 : Nat) (a1 : Int32) : Nat → xw_M → Int32 → Option (xw_M × Int32)
  | 0, _, _ => none
  | n + 1, h, a2 => (if (200 : Int32) < a2 then mX6_untilDone_b36  (k0) (a2) h  else if xo_ix ((12 : Int32) + a1) 204 = true then (if (h (k0 + 5) (Int32.toNatClampNeg ((12 : Int32) + a1))) = (5 : Int32) then mX6_untilDone_b36  (k0) (a2) h  else (mX6_turnOn k0 h).bind fun r3 => mX6_untilDone_b6  k0 a1 n r3.1 ((a2 + 1))) else none)
def mX6_untilDone (k0 : Nat) (a1 : Int32) (h : xw_M) : Option (xw_M × Int32) := (mX6_keep k0 h).bind fun r1 => mX6_untilDone_b6  (k0) (a1) xo_n r1.1 ((0 : Int32))
set_option maxHeartbeats 4000000 in
set_option maxRecDepth 100000 in
theorem mbX6_untilDone_b36 {p : Program} {l : Launch} {e : Env} {s : State} {m : MethodId} {args : Array Value} {below : List Frame} {meth : Method} {c : Code} {G : xw_G} (C : xj_C p s m args meth c G RX6 cX6_untilDone 3) (hr : meth.sig.returnType = (some .int)) {q : xw_M × Int32} {k0 : Nat} {a2 : Int32}  (hk0 : xw_kd k0 = 6) {h : xw_M}   (hR : mX6_untilDone_b36  k0 a2 h  = some q) : xj_X p l e { frames := 6, cells := 0, slots := 0, locals := 137 } s m args below meth c G 3 0 0 (MQ below (xw_Q G (some (.int q.2)) q.1) args s 0 0 (xg_A G)) h [some (.ref (xg_ad G k0)), none, some (.int a2)] 36 [] := by
  unfold mX6_untilDone_b36 at hR
  refine xr_aload_n C dX6_untilDone_36 rfl ?_
  refine xr_callVv C (st := []) [] cv_RX6_125 hk0 (fun _ zz9 => mcX6_bringBack l G hk0 zz9) rfl ⟨Nat.le_of_ble_eq_true rfl, Nat.le_of_ble_eq_true rfl⟩ (Nat.le_of_ble_eq_true rfl) ⟨Nat.zero_le _, Nat.zero_le _⟩ rfl dX6_untilDone_37 hR (fun r2 hr2 hR => ?_)
  refine xr_iload_n C dX6_untilDone_40 rfl ?_
  refine xr_sipush (v := 200) C dX6_untilDone_41 (by decide) ?_
  refine xr_icmp_le (tgt := 51) C dX6_untilDone_44 (by decide) hR (fun hR => ?_) (fun hR => ?_)
  · refine xr_iload_n C dX6_untilDone_51 rfl ?_
    exact xr_iret C hr dX6_untilDone_52 hR
  · refine xr_iconst (v := (-1)) C dX6_untilDone_47 (by decide) ?_
    refine xr_goto (tgt := 52) C dX6_untilDone_48 (by decide) ?_
    exact xr_iret C hr dX6_untilDone_52 hR
set_option maxHeartbeats 4000000 in
set_option maxRecDepth 100000 in
theorem mbX6_untilDone_b6 {p : Program} {l : Launch} {e : Env} {s : State} {m : MethodId} {args : Array Value} {below : List Frame} {meth : Method} {c : Code} {G : xw_G} (C : xj_C p s m args meth c G RX6 cX6_untilDone 3) (hr : meth.sig.returnType = (some .int)) {q : xw_M × Int32} {k0 : Nat} {a1 : Int32}  (hk0 : xw_kd k0 = 6) : ∀ (n : Nat) (h : xw_M) (a2 : Int32), mX6_untilDone_b6  k0 a1 n h a2 = some q → xj_X p l e { frames := 6, cells := 0, slots := 0, locals := 137 } s m args below meth c G 3 0 0 (MQ below (xw_Q G (some (.int q.2)) q.1) args s 0 0 (xg_A G)) h [some (.ref (xg_ad G k0)), some (.int a1), some (.int a2)] 6 [] := by
  intro n
  induction n with
  | zero => intro h a2 hR; exact absurd (show (none : Option (xw_M × Int32)) = some q from hR) (fun z => by cases z)
  | succ n ih =>
    intro h a2 hR
    rw [mX6_untilDone_b6.eq_2] at hR
    refine xr_iload_n C dX6_untilDone_6 rfl ?_
    refine xr_sipush (v := 200) C dX6_untilDone_7 (by decide) ?_
    refine xr_icmp_gt (tgt := 36) C dX6_untilDone_10 (by decide) hR (fun hR => ?_) (fun hR => ?_)
    · exact xr_sub (lv9 := [some (.ref (xg_ad G k0)), none, some (.int a2)]) (And.intro rfl (And.intro rfl trivial)) (mbX6_untilDone_b36 C hr  hk0  hR)
    · refine xr_aload_n C dX6_untilDone_13 rfl ?_
      refine xr_get C hk0 fl_RX6_22 rfl dX6_untilDone_14 ?_
      refine xr_bipush (v := 12) C dX6_untilDone_17 (by decide) ?_
      refine xr_iload_n C dX6_untilDone_19 rfl ?_
      refine xr_iadd C dX6_untilDone_20 ?_
      refine xr_iald C (kp_6_7 hk0) (xj_ltN C (kp_6_7 hk0) (by decide)) rfl dX6_untilDone_21 hR (fun hR => ?_)
      refine xr_iconst (v := 5) C dX6_untilDone_22 (by decide) ?_
      refine xr_icmp_eq (tgt := 36) C dX6_untilDone_23 (by decide) hR (fun hR => ?_) (fun hR => ?_)
      · exact xr_sub (lv9 := [some (.ref (xg_ad G k0)), none, some (.int a2)]) (And.intro rfl (And.intro rfl trivial)) (mbX6_untilDone_b36 C hr  hk0  hR)
      · refine xr_aload_n C dX6_untilDone_26 rfl ?_
        refine xr_callVv C (st := []) [] cv_RX6_92 hk0 (fun _ zz9 => mcX6_turnOn l G hk0 zz9) rfl ⟨Nat.le_of_ble_eq_true rfl, Nat.le_of_ble_eq_true rfl⟩ (Nat.le_of_ble_eq_true rfl) ⟨Nat.zero_le _, Nat.zero_le _⟩ rfl dX6_untilDone_27 hR (fun r3 hr3 hR => ?_)
        refine xr_iinc (v := 1) C dX6_untilDone_30 rfl (by decide) rfl (by decide) ?_
        refine xr_goto (tgt := 6) C dX6_untilDone_33 (by decide) ?_
        exact xr_sub (lv9 := [some (.ref (xg_ad G k0)), some (.int a1), some (.int (a2 + 1))]) (And.intro rfl (And.intro rfl (And.intro rfl trivial))) (ih _ _  hR)
set_option maxHeartbeats 4000000 in
set_option maxRecDepth 100000 in
theorem mcX6_untilDone (l : Launch) (G : xw_G) {k0 : Nat} {a1 : Int32} (hk0 : xw_kd k0 = 6) {h : xw_M} {q : xw_M × Int32} (hR : mX6_untilDone k0 a1 h = some q) : xc_M l G yX6_untilDone cX6_untilDone 3 (some .int) 6 137 [.ref (xg_ad G k0), .int a1] h q.1 (some (.int q.2)) := by
  refine xc_of (by decide +kernel) rfl (Nat.le_of_ble_eq_true rfl) ?_
  intro p e s m args below meth c C hr
  have C : xj_C p s m args meth c G RX6 cX6_untilDone 3 := C
  show xj_X p l e { frames := 6, cells := 0, slots := 0, locals := 137 } s m args below meth c G 3 0 0 (MQ below (xw_Q G (some (.int q.2)) q.1) args s 0 0 (xg_A G)) h [some (.ref (xg_ad G k0)), some (.int a1), none] 0 []
  unfold mX6_untilDone at hR
  refine xr_aload_n C dX6_untilDone_0 rfl ?_
  refine xr_callVv C (st := []) [] cv_RX6_122 hk0 (fun _ zz9 => mcX6_keep l G hk0 zz9) rfl ⟨Nat.le_of_ble_eq_true rfl, Nat.le_of_ble_eq_true rfl⟩ (Nat.le_of_ble_eq_true rfl) ⟨Nat.zero_le _, Nat.zero_le _⟩ rfl dX6_untilDone_1 hR (fun r1 hr1 hR => ?_)
  refine xr_iconst (v := 0) C dX6_untilDone_4 (by decide) ?_
  refine xr_istore_n C dX6_untilDone_5 rfl (by decide) ?_
  exact xr_sub (lv9 := [some (.ref (xg_ad G k0)), some (.int a1), some (.int (0 : Int32))]) (And.intro rfl (And.intro rfl (And.intro rfl trivial))) (mbX6_untilDone_b6 C hr  hk0 _ _ _  hR)
end
section
def mX6_turnsUntilDone (k0 : Nat) (a1 : Int32) (h : xw_M) : Option (xw_M × Int32) := xo_let (xw_st h k0 0 (0 : Int32)) fun h1 => (mX6_isFiber k0 a1 h1).bind fun r2 => (if r2.2 = 0 then (mX6_no k0 (1 : Int32) r2.1).bind fun r3 => some (r3.1, r3.2) else (mX6_untilDone k0 a1 r2.1).bind fun r4 => some (r4.1, r4.2))
set_option maxHeartbeats 4000000 in
set_option maxRecDepth 100000 in
theorem mcX6_turnsUntilDone (l : Launch) (G : xw_G) {k0 : Nat} {a1 : Int32} (hk0 : xw_kd k0 = 6) {h : xw_M} {q : xw_M × Int32} (hR : mX6_turnsUntilDone k0 a1 h = some q) : xc_M l G yX6_turnsUntilDone cX6_turnsUntilDone 2 (some .int) 7 159 [.ref (xg_ad G k0), .int a1] h q.1 (some (.int q.2)) := by
  refine xc_of (by decide +kernel) rfl (Nat.le_of_ble_eq_true rfl) ?_
  intro p e s m args below meth c C hr
  have C : xj_C p s m args meth c G RX6 cX6_turnsUntilDone 2 := C
  show xj_X p l e { frames := 7, cells := 0, slots := 0, locals := 159 } s m args below meth c G 2 0 0 (MQ below (xw_Q G (some (.int q.2)) q.1) args s 0 0 (xg_A G)) h [some (.ref (xg_ad G k0)), some (.int a1)] 0 []
  unfold mX6_turnsUntilDone at hR
  refine xr_aload_n C dX6_turnsUntilDone_0 rfl ?_
  refine xr_iconst (v := 0) C dX6_turnsUntilDone_1 (by decide) ?_
  refine xr_putL C hk0 fl_RX6_28 pf_6_0 dX6_turnsUntilDone_2 hR (fun h1 hR => ?_)
  refine xr_aload_n C dX6_turnsUntilDone_5 rfl ?_
  refine xr_iload_n C dX6_turnsUntilDone_6 rfl ?_
  refine xr_callVi C (st := []) [.int a1] cv_RX6_85 hk0 (fun _ zz9 => mcX6_isFiber l G hk0 zz9) rfl ⟨Nat.le_of_ble_eq_true rfl, Nat.le_of_ble_eq_true rfl⟩ (Nat.le_of_ble_eq_true rfl) ⟨Nat.zero_le _, Nat.zero_le _⟩ rfl dX6_turnsUntilDone_7 hR (fun r2 hr2 hR => ?_)
  refine xr_if_eq (tgt := 21) C dX6_turnsUntilDone_10 (by decide) hR (fun hR => ?_) (fun hR => ?_)
  · refine xr_aload_n C dX6_turnsUntilDone_21 rfl ?_
    refine xr_iconst (v := 1) C dX6_turnsUntilDone_22 (by decide) ?_
    refine xr_callVi C (st := []) [.int (1 : Int32)] cv_RX6_79 hk0 (fun _ zz9 => mcX6_no l G hk0 zz9) rfl ⟨Nat.le_of_ble_eq_true rfl, Nat.le_of_ble_eq_true rfl⟩ (Nat.le_of_ble_eq_true rfl) ⟨Nat.zero_le _, Nat.zero_le _⟩ rfl dX6_turnsUntilDone_23 hR (fun r3 hr3 hR => ?_)
    exact xr_iret C hr dX6_turnsUntilDone_26 hR
  · refine xr_aload_n C dX6_turnsUntilDone_13 rfl ?_
    refine xr_iload_n C dX6_turnsUntilDone_14 rfl ?_
    refine xr_callVi C (st := []) [.int a1] cv_RX6_128 hk0 (fun _ zz9 => mcX6_untilDone l G hk0 zz9) rfl ⟨Nat.le_of_ble_eq_true rfl, Nat.le_of_ble_eq_true rfl⟩ (Nat.le_of_ble_eq_true rfl) ⟨Nat.zero_le _, Nat.zero_le _⟩ rfl dX6_turnsUntilDone_15 hR (fun r4 hr4 hR => ?_)
    refine xr_goto (tgt := 26) C dX6_turnsUntilDone_18 (by decide) ?_
    exact xr_iret C hr dX6_turnsUntilDone_26 hR
end
section
def mX6_untilStuck_b30  (k0 : Nat) (a1 : Int32) (h : xw_M)  : Option (xw_M × Int32) := (mX6_bringBack k0 h).bind fun r2 => (if a1 ≤ (200 : Int32) then some (r2.1, a1) else some (r2.1, (-1 : Int32)))
def mX6_untilStuck_b6  (k0 : Nat) : Nat → xw_M → Int32 → Option (xw_M × Int32)
  | 0, _, _ => none
  | n + 1, h, a1 => (if (200 : Int32) < a1 then mX6_untilStuck_b30  (k0) (a1) h  else (mX6_stuck k0 h).bind fun r3 => (if r3.2 = 0 then (mX6_turnOn k0 r3.1).bind fun r4 => mX6_untilStuck_b6  k0 n r4.1 ((a1 + 1)) else mX6_untilStuck_b30  (k0) (a1) r3.1 ))
def mX6_untilStuck (k0 : Nat) (h : xw_M) : Option (xw_M × Int32) := (mX6_keep k0 h).bind fun r1 => mX6_untilStuck_b6  (k0) xo_n r1.1 ((0 : Int32))
set_option maxHeartbeats 4000000 in
set_option maxRecDepth 100000 in
theorem mbX6_untilStuck_b30 {p : Program} {l : Launch} {e : Env} {s : State} {m : MethodId} {args : Array Value} {below : List Frame} {meth : Method} {c : Code} {G : xw_G} (C : xj_C p s m args meth c G RX6 cX6_untilStuck 2) (hr : meth.sig.returnType = (some .int)) {q : xw_M × Int32} {k0 : Nat} {a1 : Int32}  (hk0 : xw_kd k0 = 6) {h : xw_M}   (hR : mX6_untilStuck_b30  k0 a1 h  = some q) : xj_X p l e { frames := 6, cells := 0, slots := 0, locals := 137 } s m args below meth c G 2 0 0 (MQ below (xw_Q G (some (.int q.2)) q.1) args s 0 0 (xg_A G)) h [some (.ref (xg_ad G k0)), some (.int a1)] 30 [] := by
  unfold mX6_untilStuck_b30 at hR
  refine xr_aload_n C dX6_untilStuck_30 rfl ?_
  refine xr_callVv C (st := []) [] cv_RX6_125 hk0 (fun _ zz9 => mcX6_bringBack l G hk0 zz9) rfl ⟨Nat.le_of_ble_eq_true rfl, Nat.le_of_ble_eq_true rfl⟩ (Nat.le_of_ble_eq_true rfl) ⟨Nat.zero_le _, Nat.zero_le _⟩ rfl dX6_untilStuck_31 hR (fun r2 hr2 hR => ?_)
  refine xr_iload_n C dX6_untilStuck_34 rfl ?_
  refine xr_sipush (v := 200) C dX6_untilStuck_35 (by decide) ?_
  refine xr_icmp_le (tgt := 45) C dX6_untilStuck_38 (by decide) hR (fun hR => ?_) (fun hR => ?_)
  · refine xr_iload_n C dX6_untilStuck_45 rfl ?_
    exact xr_iret C hr dX6_untilStuck_46 hR
  · refine xr_iconst (v := (-1)) C dX6_untilStuck_41 (by decide) ?_
    refine xr_goto (tgt := 46) C dX6_untilStuck_42 (by decide) ?_
    exact xr_iret C hr dX6_untilStuck_46 hR
set_option maxHeartbeats 4000000 in
set_option maxRecDepth 100000 in
theorem mbX6_untilStuck_b6 {p : Program} {l : Launch} {e : Env} {s : State} {m : MethodId} {args : Array Value} {below : List Frame} {meth : Method} {c : Code} {G : xw_G} (C : xj_C p s m args meth c G RX6 cX6_untilStuck 2) (hr : meth.sig.returnType = (some .int)) {q : xw_M × Int32} {k0 : Nat}  (hk0 : xw_kd k0 = 6) : ∀ (n : Nat) (h : xw_M) (a1 : Int32), mX6_untilStuck_b6  k0 n h a1 = some q → xj_X p l e { frames := 6, cells := 0, slots := 0, locals := 137 } s m args below meth c G 2 0 0 (MQ below (xw_Q G (some (.int q.2)) q.1) args s 0 0 (xg_A G)) h [some (.ref (xg_ad G k0)), some (.int a1)] 6 [] := by
  intro n
  induction n with
  | zero => intro h a1 hR; exact absurd (show (none : Option (xw_M × Int32)) = some q from hR) (fun z => by cases z)
  | succ n ih =>
    intro h a1 hR
    rw [mX6_untilStuck_b6.eq_2] at hR
    refine xr_iload_n C dX6_untilStuck_6 rfl ?_
    refine xr_sipush (v := 200) C dX6_untilStuck_7 (by decide) ?_
    refine xr_icmp_gt (tgt := 30) C dX6_untilStuck_10 (by decide) hR (fun hR => ?_) (fun hR => ?_)
    · exact xr_sub (lv9 := [some (.ref (xg_ad G k0)), some (.int a1)]) (And.intro rfl (And.intro rfl trivial)) (mbX6_untilStuck_b30 C hr  hk0  hR)
    · refine xr_aload_n C dX6_untilStuck_13 rfl ?_
      refine xr_callVi C (st := []) [] cv_RX6_105 hk0 (fun _ zz9 => mcX6_stuck l G hk0 zz9) rfl ⟨Nat.le_of_ble_eq_true rfl, Nat.le_of_ble_eq_true rfl⟩ (Nat.le_of_ble_eq_true rfl) ⟨Nat.zero_le _, Nat.zero_le _⟩ rfl dX6_untilStuck_14 hR (fun r3 hr3 hR => ?_)
      refine xr_if_ne (tgt := 30) C dX6_untilStuck_17 (by decide) hR (fun hR => ?_) (fun hR => ?_)
      · exact xr_sub (lv9 := [some (.ref (xg_ad G k0)), some (.int a1)]) (And.intro rfl (And.intro rfl trivial)) (mbX6_untilStuck_b30 C hr  hk0  hR)
      · refine xr_aload_n C dX6_untilStuck_20 rfl ?_
        refine xr_callVv C (st := []) [] cv_RX6_92 hk0 (fun _ zz9 => mcX6_turnOn l G hk0 zz9) rfl ⟨Nat.le_of_ble_eq_true rfl, Nat.le_of_ble_eq_true rfl⟩ (Nat.le_of_ble_eq_true rfl) ⟨Nat.zero_le _, Nat.zero_le _⟩ rfl dX6_untilStuck_21 hR (fun r4 hr4 hR => ?_)
        refine xr_iinc (v := 1) C dX6_untilStuck_24 rfl (by decide) rfl (by decide) ?_
        refine xr_goto (tgt := 6) C dX6_untilStuck_27 (by decide) ?_
        exact xr_sub (lv9 := [some (.ref (xg_ad G k0)), some (.int (a1 + 1))]) (And.intro rfl (And.intro rfl trivial)) (ih _ _  hR)
set_option maxHeartbeats 4000000 in
set_option maxRecDepth 100000 in
theorem mcX6_untilStuck (l : Launch) (G : xw_G) {k0 : Nat} (hk0 : xw_kd k0 = 6) {h : xw_M} {q : xw_M × Int32} (hR : mX6_untilStuck k0 h = some q) : xc_M l G yX6_untilStuck cX6_untilStuck 2 (some .int) 6 137 [.ref (xg_ad G k0)] h q.1 (some (.int q.2)) := by
  refine xc_of (by decide +kernel) rfl (Nat.le_of_ble_eq_true rfl) ?_
  intro p e s m args below meth c C hr
  have C : xj_C p s m args meth c G RX6 cX6_untilStuck 2 := C
  show xj_X p l e { frames := 6, cells := 0, slots := 0, locals := 137 } s m args below meth c G 2 0 0 (MQ below (xw_Q G (some (.int q.2)) q.1) args s 0 0 (xg_A G)) h [some (.ref (xg_ad G k0)), none] 0 []
  unfold mX6_untilStuck at hR
  refine xr_aload_n C dX6_untilStuck_0 rfl ?_
  refine xr_callVv C (st := []) [] cv_RX6_122 hk0 (fun _ zz9 => mcX6_keep l G hk0 zz9) rfl ⟨Nat.le_of_ble_eq_true rfl, Nat.le_of_ble_eq_true rfl⟩ (Nat.le_of_ble_eq_true rfl) ⟨Nat.zero_le _, Nat.zero_le _⟩ rfl dX6_untilStuck_1 hR (fun r1 hr1 hR => ?_)
  refine xr_iconst (v := 0) C dX6_untilStuck_4 (by decide) ?_
  refine xr_istore_n C dX6_untilStuck_5 rfl (by decide) ?_
  exact xr_sub (lv9 := [some (.ref (xg_ad G k0)), some (.int (0 : Int32))]) (And.intro rfl (And.intro rfl trivial)) (mbX6_untilStuck_b6 C hr  hk0 _ _ _  hR)
end
section
def mX6_turnsUntilStuck (k0 : Nat) (h : xw_M) : Option (xw_M × Int32) := (mX6_untilStuck k0 h).bind fun r1 => (mX6_ok k0 r1.2 r1.1).bind fun r2 => some (r2.1, r2.2)
set_option maxHeartbeats 4000000 in
set_option maxRecDepth 100000 in
theorem mcX6_turnsUntilStuck (l : Launch) (G : xw_G) {k0 : Nat} (hk0 : xw_kd k0 = 6) {h : xw_M} {q : xw_M × Int32} (hR : mX6_turnsUntilStuck k0 h = some q) : xc_M l G yX6_turnsUntilStuck cX6_turnsUntilStuck 1 (some .int) 7 158 [.ref (xg_ad G k0)] h q.1 (some (.int q.2)) := by
  refine xc_of (by decide +kernel) rfl (Nat.le_of_ble_eq_true rfl) ?_
  intro p e s m args below meth c C hr
  have C : xj_C p s m args meth c G RX6 cX6_turnsUntilStuck 1 := C
  show xj_X p l e { frames := 7, cells := 0, slots := 0, locals := 158 } s m args below meth c G 1 0 0 (MQ below (xw_Q G (some (.int q.2)) q.1) args s 0 0 (xg_A G)) h [some (.ref (xg_ad G k0))] 0 []
  unfold mX6_turnsUntilStuck at hR
  refine xr_aload_n C dX6_turnsUntilStuck_0 rfl ?_
  refine xr_aload_n C dX6_turnsUntilStuck_1 rfl ?_
  refine xr_callVi C (st := [.ref (xg_ad G k0)]) [] cv_RX6_131 hk0 (fun _ zz9 => mcX6_untilStuck l G hk0 zz9) rfl ⟨Nat.le_of_ble_eq_true rfl, Nat.le_of_ble_eq_true rfl⟩ (Nat.le_of_ble_eq_true rfl) ⟨Nat.zero_le _, Nat.zero_le _⟩ rfl dX6_turnsUntilStuck_2 hR (fun r1 hr1 hR => ?_)
  refine xr_callVi C (st := []) [.int r1.2] cv_RX6_95 hk0 (fun _ zz9 => mcX6_ok l G hk0 zz9) rfl ⟨Nat.le_of_ble_eq_true rfl, Nat.le_of_ble_eq_true rfl⟩ (Nat.le_of_ble_eq_true rfl) ⟨Nat.zero_le _, Nat.zero_le _⟩ rfl dX6_turnsUntilStuck_5 hR (fun r2 hr2 hR => ?_)
  exact xr_iret C hr dX6_turnsUntilStuck_8 hR
end
section
def mX6_sumIn_b41  (k0 : Nat) (a1 : Int32) (a2 : Int32) : Nat → xw_M → Int32 → Option (xw_M × Int32)
  | 0, _, _ => none
  | n + 1, h, a3 => (if a2 ≤ a3 then if xo_ix ((28 : Int32) + a1) 204 = true then (mX6_bringBack k0 h).bind fun r5 => some (r5.1, (h (k0 + 5) (Int32.toNatClampNeg ((28 : Int32) + a1)))) else none else (mX6_turnOn k0 h).bind fun r6 => mX6_sumIn_b41  k0 a1 a2 n r6.1 ((a3 + 1)))
def mX6_sumIn (k0 : Nat) (a1 : Int32) (a2 : Int32) (h : xw_M) : Option (xw_M × Int32) := xo_let (xw_st h k0 0 (0 : Int32)) fun h1 => (mX6_isFiber k0 a1 h1).bind fun r2 => (if r2.2 = 0 then (mX6_no k0 (1 : Int32) r2.1).bind fun r8 => some (r8.1, r8.2) else (mX6_isFrom a2 (1 : Int32) (60 : Int32) r2.1).bind fun r3 => (if r3.2 = 0 then (mX6_no k0 (2 : Int32) r3.1).bind fun r7 => some (r7.1, r7.2) else (mX6_keep k0 r3.1).bind fun r4 => mX6_sumIn_b41  (k0) (a1) (a2) xo_n r4.1 ((0 : Int32))))
set_option maxHeartbeats 4000000 in
set_option maxRecDepth 100000 in
theorem mbX6_sumIn_b41 {p : Program} {l : Launch} {e : Env} {s : State} {m : MethodId} {args : Array Value} {below : List Frame} {meth : Method} {c : Code} {G : xw_G} (C : xj_C p s m args meth c G RX6 cX6_sumIn 4) (hr : meth.sig.returnType = (some .int)) {q : xw_M × Int32} {k0 : Nat} {a1 : Int32} {a2 : Int32}  (hk0 : xw_kd k0 = 6) : ∀ (n : Nat) (h : xw_M) (a3 : Int32), mX6_sumIn_b41  k0 a1 a2 n h a3 = some q → xj_X p l e { frames := 6, cells := 0, slots := 0, locals := 137 } s m args below meth c G 4 0 0 (MQ below (xw_Q G (some (.int q.2)) q.1) args s 0 0 (xg_A G)) h [some (.ref (xg_ad G k0)), some (.int a1), some (.int a2), some (.int a3)] 41 [] := by
  intro n
  induction n with
  | zero => intro h a3 hR; exact absurd (show (none : Option (xw_M × Int32)) = some q from hR) (fun z => by cases z)
  | succ n ih =>
    intro h a3 hR
    rw [mX6_sumIn_b41.eq_2] at hR
    refine xr_iload_n C dX6_sumIn_41 rfl ?_
    refine xr_iload_n C dX6_sumIn_42 rfl ?_
    refine xr_icmp_ge (tgt := 56) C dX6_sumIn_43 (by decide) hR (fun hR => ?_) (fun hR => ?_)
    · refine xr_aload_n C dX6_sumIn_56 rfl ?_
      refine xr_get C hk0 fl_RX6_22 rfl dX6_sumIn_57 ?_
      refine xr_bipush (v := 28) C dX6_sumIn_60 (by decide) ?_
      refine xr_iload_n C dX6_sumIn_62 rfl ?_
      refine xr_iadd C dX6_sumIn_63 ?_
      refine xr_iald C (kp_6_7 hk0) (xj_ltN C (kp_6_7 hk0) (by decide)) rfl dX6_sumIn_64 hR (fun hR => ?_)
      refine xr_istore_n C dX6_sumIn_65 rfl (by decide) ?_
      refine xr_aload_n C dX6_sumIn_66 rfl ?_
      refine xr_callVv C (st := []) [] cv_RX6_125 hk0 (fun _ zz9 => mcX6_bringBack l G hk0 zz9) rfl ⟨Nat.le_of_ble_eq_true rfl, Nat.le_of_ble_eq_true rfl⟩ (Nat.le_of_ble_eq_true rfl) ⟨Nat.zero_le _, Nat.zero_le _⟩ rfl dX6_sumIn_67 hR (fun r5 hr5 hR => ?_)
      refine xr_iload_n C dX6_sumIn_70 rfl ?_
      exact xr_iret C hr dX6_sumIn_71 hR
    · refine xr_aload_n C dX6_sumIn_46 rfl ?_
      refine xr_callVv C (st := []) [] cv_RX6_92 hk0 (fun _ zz9 => mcX6_turnOn l G hk0 zz9) rfl ⟨Nat.le_of_ble_eq_true rfl, Nat.le_of_ble_eq_true rfl⟩ (Nat.le_of_ble_eq_true rfl) ⟨Nat.zero_le _, Nat.zero_le _⟩ rfl dX6_sumIn_47 hR (fun r6 hr6 hR => ?_)
      refine xr_iinc (v := 1) C dX6_sumIn_50 rfl (by decide) rfl (by decide) ?_
      refine xr_goto (tgt := 41) C dX6_sumIn_53 (by decide) ?_
      exact xr_sub (lv9 := [some (.ref (xg_ad G k0)), some (.int a1), some (.int a2), some (.int (a3 + 1))]) (And.intro rfl (And.intro rfl (And.intro rfl (And.intro rfl trivial)))) (ih _ _  hR)
set_option maxHeartbeats 4000000 in
set_option maxRecDepth 100000 in
theorem mcX6_sumIn (l : Launch) (G : xw_G) {k0 : Nat} {a1 : Int32} {a2 : Int32} (hk0 : xw_kd k0 = 6) {h : xw_M} {q : xw_M × Int32} (hR : mX6_sumIn k0 a1 a2 h = some q) : xc_M l G yX6_sumIn cX6_sumIn 4 (some .int) 6 137 [.ref (xg_ad G k0), .int a1, .int a2] h q.1 (some (.int q.2)) := by
  refine xc_of (by decide +kernel) rfl (Nat.le_of_ble_eq_true rfl) ?_
  intro p e s m args below meth c C hr
  have C : xj_C p s m args meth c G RX6 cX6_sumIn 4 := C
  show xj_X p l e { frames := 6, cells := 0, slots := 0, locals := 137 } s m args below meth c G 4 0 0 (MQ below (xw_Q G (some (.int q.2)) q.1) args s 0 0 (xg_A G)) h [some (.ref (xg_ad G k0)), some (.int a1), some (.int a2), none] 0 []
  unfold mX6_sumIn at hR
  refine xr_aload_n C dX6_sumIn_0 rfl ?_
  refine xr_iconst (v := 0) C dX6_sumIn_1 (by decide) ?_
  refine xr_putL C hk0 fl_RX6_28 pf_6_0 dX6_sumIn_2 hR (fun h1 hR => ?_)
  refine xr_aload_n C dX6_sumIn_5 rfl ?_
  refine xr_iload_n C dX6_sumIn_6 rfl ?_
  refine xr_callVi C (st := []) [.int a1] cv_RX6_85 hk0 (fun _ zz9 => mcX6_isFiber l G hk0 zz9) rfl ⟨Nat.le_of_ble_eq_true rfl, Nat.le_of_ble_eq_true rfl⟩ (Nat.le_of_ble_eq_true rfl) ⟨Nat.zero_le _, Nat.zero_le _⟩ rfl dX6_sumIn_7 hR (fun r2 hr2 hR => ?_)
  refine xr_if_ne (tgt := 19) C dX6_sumIn_10 (by decide) hR (fun hR => ?_) (fun hR => ?_)
  · refine xr_iload_n C dX6_sumIn_19 rfl ?_
    refine xr_iconst (v := 1) C dX6_sumIn_20 (by decide) ?_
    refine xr_bipush (v := 60) C dX6_sumIn_21 (by decide) ?_
    refine xr_callSi C (st := []) [.int a2, .int (1 : Int32), .int (60 : Int32)] cs_RX6_35 (fun _ zz9 => mcX6_isFrom l G  zz9) rfl ⟨Nat.le_of_ble_eq_true rfl, Nat.le_of_ble_eq_true rfl⟩ (Nat.le_of_ble_eq_true rfl) ⟨Nat.zero_le _, Nat.zero_le _⟩ rfl dX6_sumIn_23 hR (fun r3 hr3 hR => ?_)
    refine xr_if_ne (tgt := 35) C dX6_sumIn_26 (by decide) hR (fun hR => ?_) (fun hR => ?_)
    · refine xr_aload_n C dX6_sumIn_35 rfl ?_
      refine xr_callVv C (st := []) [] cv_RX6_122 hk0 (fun _ zz9 => mcX6_keep l G hk0 zz9) rfl ⟨Nat.le_of_ble_eq_true rfl, Nat.le_of_ble_eq_true rfl⟩ (Nat.le_of_ble_eq_true rfl) ⟨Nat.zero_le _, Nat.zero_le _⟩ rfl dX6_sumIn_36 hR (fun r4 hr4 hR => ?_)
      refine xr_iconst (v := 0) C dX6_sumIn_39 (by decide) ?_
      refine xr_istore_n C dX6_sumIn_40 rfl (by decide) ?_
      exact xr_sub (lv9 := [some (.ref (xg_ad G k0)), some (.int a1), some (.int a2), some (.int (0 : Int32))]) (And.intro rfl (And.intro rfl (And.intro rfl (And.intro rfl trivial)))) (mbX6_sumIn_b41 C hr  hk0 _ _ _  hR)
    · refine xr_aload_n C dX6_sumIn_29 rfl ?_
      refine xr_iconst (v := 2) C dX6_sumIn_30 (by decide) ?_
      refine xr_callVi C (st := []) [.int (2 : Int32)] cv_RX6_79 hk0 (fun _ zz9 => mcX6_no l G hk0 zz9) rfl ⟨Nat.le_of_ble_eq_true rfl, Nat.le_of_ble_eq_true rfl⟩ (Nat.le_of_ble_eq_true rfl) ⟨Nat.zero_le _, Nat.zero_le _⟩ rfl dX6_sumIn_31 hR (fun r7 hr7 hR => ?_)
      exact xr_iret C hr dX6_sumIn_34 hR
  · refine xr_aload_n C dX6_sumIn_13 rfl ?_
    refine xr_iconst (v := 1) C dX6_sumIn_14 (by decide) ?_
    refine xr_callVi C (st := []) [.int (1 : Int32)] cv_RX6_79 hk0 (fun _ zz9 => mcX6_no l G hk0 zz9) rfl ⟨Nat.le_of_ble_eq_true rfl, Nat.le_of_ble_eq_true rfl⟩ (Nat.le_of_ble_eq_true rfl) ⟨Nat.zero_le _, Nat.zero_le _⟩ rfl dX6_sumIn_15 hR (fun r8 hr8 hR => ?_)
    exact xr_iret C hr dX6_sumIn_18 hR
end
section
def mX6_roomFor_b85 (K17 : xw_M → Int32 → Int32 → Option (xw_M × Int32)) (k0 : Nat) (a1 : Int32) (a2 : Int32) (a3 : Int32) (h : xw_M)  : Option (xw_M × Int32) := (mX6_bringBack k0 h).bind fun r4 => K17 r4.1 (a2) ((a3 + 1))
def mX6_roomFor_b71 (K17 : xw_M → Int32 → Int32 → Option (xw_M × Int32)) (k0 : Nat) (a1 : Int32) (a2 : Int32) (a3 : Int32) (h : xw_M)  : Option (xw_M × Int32) := (mX6_inState k0 (5 : Int32) h).bind fun r3 => (if r3.2 = (r3.1 k0 2) then mX6_roomFor_b85 (K17) (k0) (a1) (a3) (a3) r3.1  else mX6_roomFor_b85 (K17) (k0) (a1) (a2) (a3) r3.1 )
def mX6_roomFor_b42 (K17 : xw_M → Int32 → Int32 → Option (xw_M × Int32)) (k0 : Nat) (a1 : Int32) (a2 : Int32) (a3 : Int32) : Nat → xw_M → Int32 → Option (xw_M × Int32)
  | 0, _, _ => none
  | n + 1, h, a4 => (if (100 : Int32) ≤ a4 then mX6_roomFor_b71 (K17) (k0) (a1) (a2) (a3) h  else (mX6_inState k0 (5 : Int32) h).bind fun r5 => (if (r5.1 k0 2) ≤ r5.2 then mX6_roomFor_b71 (K17) (k0) (a1) (a2) (a3) r5.1  else (mX6_turnOn k0 r5.1).bind fun r6 => mX6_roomFor_b42 K17 k0 a1 a2 a3 n r6.1 ((a4 + 1))))
def mX6_roomFor_b17  (k0 : Nat) (a1 : Int32) : Nat → xw_M → Int32 → Int32 → Option (xw_M × Int32)
  | 0, _, _, _ => none
  | n + 1, h, a2, a3 => (if (8 : Int32) < a3 then some (h, a2) else (if a2 = (-1 : Int32) then if xo_ix ((164 : Int32) + a1) 204 = true then (xo_let (xw_st h (k0 + 5) (Int32.toNatClampNeg ((164 : Int32) + a1)) a3) fun h2 => mX6_roomFor_b42 (mX6_roomFor_b17  k0 a1 n) (k0) (a1) (a2) (a3) xo_n h2 ((0 : Int32))) else none else some (h, a2)))
def mX6_roomFor (k0 : Nat) (a1 : Int32) (h : xw_M) : Option (xw_M × Int32) := (mX6_keep k0 h).bind fun r1 => if xo_ix ((164 : Int32) + a1) 204 = true then mX6_roomFor_b17  (k0) (a1) xo_n r1.1 ((-1 : Int32)) ((r1.1 (k0 + 6) (Int32.toNatClampNeg ((164 : Int32) + a1)))) else none
set_option maxHeartbeats 4000000 in
set_option maxRecDepth 100000 in
theorem mbX6_roomFor_b85 {p : Program} {l : Launch} {e : Env} {s : State} {m : MethodId} {args : Array Value} {below : List Frame} {meth : Method} {c : Code} {G : xw_G} (C : xj_C p s m args meth c G RX6 cX6_roomFor 5) (hr : meth.sig.returnType = (some .int)) {q : xw_M × Int32} {K17 : xw_M → Int32 → Int32 → Option (xw_M × Int32)} {k0 : Nat} {a1 : Int32} {a2 : Int32} {a3 : Int32} (hK17 : ∀ (h : xw_M) (a2 : Int32) (a3 : Int32), K17 h a2 a3 = some q → xj_X p l e { frames := 6, cells := 0, slots := 0, locals := 137 } s m args below meth c G 5 0 0 (MQ below (xw_Q G (some (.int q.2)) q.1) args s 0 0 (xg_A G)) h [some (.ref (xg_ad G k0)), some (.int a1), some (.int a2), some (.int a3), none] 17 []) (hk0 : xw_kd k0 = 6) {h : xw_M}   (hR : mX6_roomFor_b85 K17 k0 a1 a2 a3 h  = some q) : xj_X p l e { frames := 6, cells := 0, slots := 0, locals := 137 } s m args below meth c G 5 0 0 (MQ below (xw_Q G (some (.int q.2)) q.1) args s 0 0 (xg_A G)) h [some (.ref (xg_ad G k0)), some (.int a1), some (.int a2), some (.int a3), none] 85 [] := by
  unfold mX6_roomFor_b85 at hR
  refine xr_aload_n C dX6_roomFor_85 rfl ?_
  refine xr_callVv C (st := []) [] cv_RX6_125 hk0 (fun _ zz9 => mcX6_bringBack l G hk0 zz9) rfl ⟨Nat.le_of_ble_eq_true rfl, Nat.le_of_ble_eq_true rfl⟩ (Nat.le_of_ble_eq_true rfl) ⟨Nat.zero_le _, Nat.zero_le _⟩ rfl dX6_roomFor_86 hR (fun r4 hr4 hR => ?_)
  refine xr_iinc (v := 1) C dX6_roomFor_89 rfl (by decide) rfl (by decide) ?_
  refine xr_goto (tgt := 17) C dX6_roomFor_92 (by decide) ?_
  exact xr_sub (lv9 := [some (.ref (xg_ad G k0)), some (.int a1), some (.int a2), some (.int (a3 + 1)), none]) (And.intro rfl (And.intro rfl (And.intro rfl (And.intro rfl trivial)))) (hK17 _ _ _  hR)
set_option maxHeartbeats 4000000 in
set_option maxRecDepth 100000 in
theorem mbX6_roomFor_b71 {p : Program} {l : Launch} {e : Env} {s : State} {m : MethodId} {args : Array Value} {below : List Frame} {meth : Method} {c : Code} {G : xw_G} (C : xj_C p s m args meth c G RX6 cX6_roomFor 5) (hr : meth.sig.returnType = (some .int)) {q : xw_M × Int32} {K17 : xw_M → Int32 → Int32 → Option (xw_M × Int32)} {k0 : Nat} {a1 : Int32} {a2 : Int32} {a3 : Int32} (hK17 : ∀ (h : xw_M) (a2 : Int32) (a3 : Int32), K17 h a2 a3 = some q → xj_X p l e { frames := 6, cells := 0, slots := 0, locals := 137 } s m args below meth c G 5 0 0 (MQ below (xw_Q G (some (.int q.2)) q.1) args s 0 0 (xg_A G)) h [some (.ref (xg_ad G k0)), some (.int a1), some (.int a2), some (.int a3), none] 17 []) (hk0 : xw_kd k0 = 6) {h : xw_M}   (hR : mX6_roomFor_b71 K17 k0 a1 a2 a3 h  = some q) : xj_X p l e { frames := 6, cells := 0, slots := 0, locals := 137 } s m args below meth c G 5 0 0 (MQ below (xw_Q G (some (.int q.2)) q.1) args s 0 0 (xg_A G)) h [some (.ref (xg_ad G k0)), some (.int a1), some (.int a2), some (.int a3), none] 71 [] := by
  unfold mX6_roomFor_b71 at hR
  refine xr_aload_n C dX6_roomFor_71 rfl ?_
  refine xr_iconst (v := 5) C dX6_roomFor_72 (by decide) ?_
  refine xr_callVi C (st := []) [.int (5 : Int32)] cv_RX6_98 hk0 (fun _ zz9 => mcX6_inState l G hk0 zz9) rfl ⟨Nat.le_of_ble_eq_true rfl, Nat.le_of_ble_eq_true rfl⟩ (Nat.le_of_ble_eq_true rfl) ⟨Nat.zero_le _, Nat.zero_le _⟩ rfl dX6_roomFor_73 hR (fun r3 hr3 hR => ?_)
  refine xr_aload_n C dX6_roomFor_76 rfl ?_
  refine xr_get C hk0 fl_RX6_39 rfl dX6_roomFor_77 ?_
  refine xr_icmp_ne (tgt := 85) C dX6_roomFor_80 (by decide) hR (fun hR => ?_) (fun hR => ?_)
  · exact xr_sub (lv9 := [some (.ref (xg_ad G k0)), some (.int a1), some (.int a2), some (.int a3), none]) (And.intro rfl (And.intro rfl (And.intro rfl (And.intro rfl trivial)))) (mbX6_roomFor_b85 C hr hK17 hk0  hR)
  · refine xr_iload_n C dX6_roomFor_83 rfl ?_
    refine xr_istore_n C dX6_roomFor_84 rfl (by decide) ?_
    exact xr_sub (lv9 := [some (.ref (xg_ad G k0)), some (.int a1), some (.int a3), some (.int a3), none]) (And.intro rfl (And.intro rfl (And.intro rfl (And.intro rfl trivial)))) (mbX6_roomFor_b85 C hr hK17 hk0  hR)
set_option maxHeartbeats 4000000 in
set_option maxRecDepth 100000 in
theorem mbX6_roomFor_b42 {p : Program} {l : Launch} {e : Env} {s : State} {m : MethodId} {args : Array Value} {below : List Frame} {meth : Method} {c : Code} {G : xw_G} (C : xj_C p s m args meth c G RX6 cX6_roomFor 5) (hr : meth.sig.returnType = (some .int)) {q : xw_M × Int32} {K17 : xw_M → Int32 → Int32 → Option (xw_M × Int32)} {k0 : Nat} {a1 : Int32} {a2 : Int32} {a3 : Int32} (hK17 : ∀ (h : xw_M) (a2 : Int32) (a3 : Int32), K17 h a2 a3 = some q → xj_X p l e { frames := 6, cells := 0, slots := 0, locals := 137 } s m args below meth c G 5 0 0 (MQ below (xw_Q G (some (.int q.2)) q.1) args s 0 0 (xg_A G)) h [some (.ref (xg_ad G k0)), some (.int a1), some (.int a2), some (.int a3), none] 17 []) (hk0 : xw_kd k0 = 6) : ∀ (n : Nat) (h : xw_M) (a4 : Int32), mX6_roomFor_b42 K17 k0 a1 a2 a3 n h a4 = some q → xj_X p l e { frames := 6, cells := 0, slots := 0, locals := 137 } s m args below meth c G 5 0 0 (MQ below (xw_Q G (some (.int q.2)) q.1) args s 0 0 (xg_A G)) h [some (.ref (xg_ad G k0)), some (.int a1), some (.int a2), some (.int a3), some (.int a4)] 42 [] := by
  intro n
  induction n with
  | zero => intro h a4 hR; exact absurd (show (none : Option (xw_M × Int32)) = some q from hR) (fun z => by cases z)
  | succ n ih =>
    intro h a4 hR
    rw [mX6_roomFor_b42.eq_2] at hR
    refine xr_iload C dX6_roomFor_42 rfl ?_
    refine xr_bipush (v := 100) C dX6_roomFor_44 (by decide) ?_
    refine xr_icmp_ge (tgt := 71) C dX6_roomFor_46 (by decide) hR (fun hR => ?_) (fun hR => ?_)
    · exact xr_sub (lv9 := [some (.ref (xg_ad G k0)), some (.int a1), some (.int a2), some (.int a3), none]) (And.intro rfl (And.intro rfl (And.intro rfl (And.intro rfl trivial)))) (mbX6_roomFor_b71 C hr hK17 hk0  hR)
    · refine xr_aload_n C dX6_roomFor_49 rfl ?_
      refine xr_iconst (v := 5) C dX6_roomFor_50 (by decide) ?_
      refine xr_callVi C (st := []) [.int (5 : Int32)] cv_RX6_98 hk0 (fun _ zz9 => mcX6_inState l G hk0 zz9) rfl ⟨Nat.le_of_ble_eq_true rfl, Nat.le_of_ble_eq_true rfl⟩ (Nat.le_of_ble_eq_true rfl) ⟨Nat.zero_le _, Nat.zero_le _⟩ rfl dX6_roomFor_51 hR (fun r5 hr5 hR => ?_)
      refine xr_aload_n C dX6_roomFor_54 rfl ?_
      refine xr_get C hk0 fl_RX6_39 rfl dX6_roomFor_55 ?_
      refine xr_icmp_ge (tgt := 71) C dX6_roomFor_58 (by decide) hR (fun hR => ?_) (fun hR => ?_)
      · exact xr_sub (lv9 := [some (.ref (xg_ad G k0)), some (.int a1), some (.int a2), some (.int a3), none]) (And.intro rfl (And.intro rfl (And.intro rfl (And.intro rfl trivial)))) (mbX6_roomFor_b71 C hr hK17 hk0  hR)
      · refine xr_aload_n C dX6_roomFor_61 rfl ?_
        refine xr_callVv C (st := []) [] cv_RX6_92 hk0 (fun _ zz9 => mcX6_turnOn l G hk0 zz9) rfl ⟨Nat.le_of_ble_eq_true rfl, Nat.le_of_ble_eq_true rfl⟩ (Nat.le_of_ble_eq_true rfl) ⟨Nat.zero_le _, Nat.zero_le _⟩ rfl dX6_roomFor_62 hR (fun r6 hr6 hR => ?_)
        refine xr_iinc (v := 1) C dX6_roomFor_65 rfl (by decide) rfl (by decide) ?_
        refine xr_goto (tgt := 42) C dX6_roomFor_68 (by decide) ?_
        exact xr_sub (lv9 := [some (.ref (xg_ad G k0)), some (.int a1), some (.int a2), some (.int a3), some (.int (a4 + 1))]) (And.intro rfl (And.intro rfl (And.intro rfl (And.intro rfl (And.intro rfl trivial))))) (ih _ _  hR)
set_option maxHeartbeats 4000000 in
set_option maxRecDepth 100000 in
theorem mbX6_roomFor_b17 {p : Program} {l : Launch} {e : Env} {s : State} {m : MethodId} {args : Array Value} {below : List Frame} {meth : Method} {c : Code} {G : xw_G} (C : xj_C p s m args meth c G RX6 cX6_roomFor 5) (hr : meth.sig.returnType = (some .int)) {q : xw_M × Int32} {k0 : Nat} {a1 : Int32}  (hk0 : xw_kd k0 = 6) : ∀ (n : Nat) (h : xw_M) (a2 : Int32) (a3 : Int32), mX6_roomFor_b17  k0 a1 n h a2 a3 = some q → xj_X p l e { frames := 6, cells := 0, slots := 0, locals := 137 } s m args below meth c G 5 0 0 (MQ below (xw_Q G (some (.int q.2)) q.1) args s 0 0 (xg_A G)) h [some (.ref (xg_ad G k0)), some (.int a1), some (.int a2), some (.int a3), none] 17 [] := by
  intro n
  induction n with
  | zero => intro h a2 a3 hR; exact absurd (show (none : Option (xw_M × Int32)) = some q from hR) (fun z => by cases z)
  | succ n ih =>
    intro h a2 a3 hR
    rw [mX6_roomFor_b17.eq_2] at hR
    refine xr_iload_n C dX6_roomFor_17 rfl ?_
    refine xr_bipush (v := 8) C dX6_roomFor_18 (by decide) ?_
    refine xr_icmp_gt (tgt := 95) C dX6_roomFor_20 (by decide) hR (fun hR => ?_) (fun hR => ?_)
    · refine xr_iload_n C dX6_roomFor_95 rfl ?_
      exact xr_iret C hr dX6_roomFor_96 hR
    · refine xr_iload_n C dX6_roomFor_23 rfl ?_
      refine xr_iconst (v := (-1)) C dX6_roomFor_24 (by decide) ?_
      refine xr_icmp_ne (tgt := 95) C dX6_roomFor_25 (by decide) hR (fun hR => ?_) (fun hR => ?_)
      · refine xr_iload_n C dX6_roomFor_95 rfl ?_
        exact xr_iret C hr dX6_roomFor_96 hR
      · refine xr_aload_n C dX6_roomFor_28 rfl ?_
        refine xr_get C hk0 fl_RX6_22 rfl dX6_roomFor_29 ?_
        refine xr_sipush (v := 164) C dX6_roomFor_32 (by decide) ?_
        refine xr_iload_n C dX6_roomFor_35 rfl ?_
        refine xr_iadd C dX6_roomFor_36 ?_
        refine xr_iload_n C dX6_roomFor_37 rfl ?_
        refine xr_iastL C (kp_6_7 hk0) (xj_ltN C (kp_6_7 hk0) (by decide)) rfl dX6_roomFor_38 hR (fun h2 hR => ?_)
        refine xr_iconst (v := 0) C dX6_roomFor_39 (by decide) ?_
        refine xr_istore C dX6_roomFor_40 rfl (by decide) ?_
        exact xr_sub (lv9 := [some (.ref (xg_ad G k0)), some (.int a1), some (.int a2), some (.int a3), some (.int (0 : Int32))]) (And.intro rfl (And.intro rfl (And.intro rfl (And.intro rfl (And.intro rfl trivial))))) (mbX6_roomFor_b42 C hr ih hk0 _ _ _  hR)
set_option maxHeartbeats 4000000 in
set_option maxRecDepth 100000 in
theorem mcX6_roomFor (l : Launch) (G : xw_G) {k0 : Nat} {a1 : Int32} (hk0 : xw_kd k0 = 6) {h : xw_M} {q : xw_M × Int32} (hR : mX6_roomFor k0 a1 h = some q) : xc_M l G yX6_roomFor cX6_roomFor 5 (some .int) 6 137 [.ref (xg_ad G k0), .int a1] h q.1 (some (.int q.2)) := by
  refine xc_of (by decide +kernel) rfl (Nat.le_of_ble_eq_true rfl) ?_
  intro p e s m args below meth c C hr
  have C : xj_C p s m args meth c G RX6 cX6_roomFor 5 := C
  show xj_X p l e { frames := 6, cells := 0, slots := 0, locals := 137 } s m args below meth c G 5 0 0 (MQ below (xw_Q G (some (.int q.2)) q.1) args s 0 0 (xg_A G)) h [some (.ref (xg_ad G k0)), some (.int a1), none, none, none] 0 []
  unfold mX6_roomFor at hR
  refine xr_aload_n C dX6_roomFor_0 rfl ?_
  refine xr_callVv C (st := []) [] cv_RX6_122 hk0 (fun _ zz9 => mcX6_keep l G hk0 zz9) rfl ⟨Nat.le_of_ble_eq_true rfl, Nat.le_of_ble_eq_true rfl⟩ (Nat.le_of_ble_eq_true rfl) ⟨Nat.zero_le _, Nat.zero_le _⟩ rfl dX6_roomFor_1 hR (fun r1 hr1 hR => ?_)
  refine xr_iconst (v := (-1)) C dX6_roomFor_4 (by decide) ?_
  refine xr_istore_n C dX6_roomFor_5 rfl (by decide) ?_
  refine xr_aload_n C dX6_roomFor_6 rfl ?_
  refine xr_get C hk0 fl_RX6_25 rfl dX6_roomFor_7 ?_
  refine xr_sipush (v := 164) C dX6_roomFor_10 (by decide) ?_
  refine xr_iload_n C dX6_roomFor_13 rfl ?_
  refine xr_iadd C dX6_roomFor_14 ?_
  refine xr_iald C (kp_6_8 hk0) (xj_ltN C (kp_6_8 hk0) (by decide)) rfl dX6_roomFor_15 hR (fun hR => ?_)
  refine xr_istore_n C dX6_roomFor_16 rfl (by decide) ?_
  exact xr_sub (lv9 := [some (.ref (xg_ad G k0)), some (.int a1), some (.int (-1 : Int32)), some (.int (r1.1 (k0 + 6) (Int32.toNatClampNeg ((164 : Int32) + a1)))), none]) (And.intro rfl (And.intro rfl (And.intro rfl (And.intro rfl trivial)))) (mbX6_roomFor_b17 C hr  hk0 _ _ _ _  hR)
end
section
def mX6_placesWanted (k0 : Nat) (a1 : Int32) (h : xw_M) : Option (xw_M × Int32) := xo_let (xw_st h k0 0 (0 : Int32)) fun h1 => (mX6_isChannel k0 a1 h1).bind fun r2 => (if r2.2 = 0 then (mX6_no k0 (1 : Int32) r2.1).bind fun r3 => some (r3.1, r3.2) else (mX6_roomFor k0 a1 r2.1).bind fun r4 => some (r4.1, r4.2))
set_option maxHeartbeats 4000000 in
set_option maxRecDepth 100000 in
theorem mcX6_placesWanted (l : Launch) (G : xw_G) {k0 : Nat} {a1 : Int32} (hk0 : xw_kd k0 = 6) {h : xw_M} {q : xw_M × Int32} (hR : mX6_placesWanted k0 a1 h = some q) : xc_M l G yX6_placesWanted cX6_placesWanted 2 (some .int) 7 161 [.ref (xg_ad G k0), .int a1] h q.1 (some (.int q.2)) := by
  refine xc_of (by decide +kernel) rfl (Nat.le_of_ble_eq_true rfl) ?_
  intro p e s m args below meth c C hr
  have C : xj_C p s m args meth c G RX6 cX6_placesWanted 2 := C
  show xj_X p l e { frames := 7, cells := 0, slots := 0, locals := 161 } s m args below meth c G 2 0 0 (MQ below (xw_Q G (some (.int q.2)) q.1) args s 0 0 (xg_A G)) h [some (.ref (xg_ad G k0)), some (.int a1)] 0 []
  unfold mX6_placesWanted at hR
  refine xr_aload_n C dX6_placesWanted_0 rfl ?_
  refine xr_iconst (v := 0) C dX6_placesWanted_1 (by decide) ?_
  refine xr_putL C hk0 fl_RX6_28 pf_6_0 dX6_placesWanted_2 hR (fun h1 hR => ?_)
  refine xr_aload_n C dX6_placesWanted_5 rfl ?_
  refine xr_iload_n C dX6_placesWanted_6 rfl ?_
  refine xr_callVi C (st := []) [.int a1] cv_RX6_82 hk0 (fun _ zz9 => mcX6_isChannel l G hk0 zz9) rfl ⟨Nat.le_of_ble_eq_true rfl, Nat.le_of_ble_eq_true rfl⟩ (Nat.le_of_ble_eq_true rfl) ⟨Nat.zero_le _, Nat.zero_le _⟩ rfl dX6_placesWanted_7 hR (fun r2 hr2 hR => ?_)
  refine xr_if_eq (tgt := 21) C dX6_placesWanted_10 (by decide) hR (fun hR => ?_) (fun hR => ?_)
  · refine xr_aload_n C dX6_placesWanted_21 rfl ?_
    refine xr_iconst (v := 1) C dX6_placesWanted_22 (by decide) ?_
    refine xr_callVi C (st := []) [.int (1 : Int32)] cv_RX6_79 hk0 (fun _ zz9 => mcX6_no l G hk0 zz9) rfl ⟨Nat.le_of_ble_eq_true rfl, Nat.le_of_ble_eq_true rfl⟩ (Nat.le_of_ble_eq_true rfl) ⟨Nat.zero_le _, Nat.zero_le _⟩ rfl dX6_placesWanted_23 hR (fun r3 hr3 hR => ?_)
    exact xr_iret C hr dX6_placesWanted_26 hR
  · refine xr_aload_n C dX6_placesWanted_13 rfl ?_
    refine xr_iload_n C dX6_placesWanted_14 rfl ?_
    refine xr_callVi C (st := []) [.int a1] cv_RX6_134 hk0 (fun _ zz9 => mcX6_roomFor l G hk0 zz9) rfl ⟨Nat.le_of_ble_eq_true rfl, Nat.le_of_ble_eq_true rfl⟩ (Nat.le_of_ble_eq_true rfl) ⟨Nat.zero_le _, Nat.zero_le _⟩ rfl dX6_placesWanted_15 hR (fun r4 hr4 hR => ?_)
    refine xr_goto (tgt := 26) C dX6_placesWanted_18 (by decide) ?_
    exact xr_iret C hr dX6_placesWanted_26 hR
end
