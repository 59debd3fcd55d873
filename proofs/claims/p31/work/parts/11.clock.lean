section
def mX1_channelAt (k0 : Nat) (a1 : Int32) (h : xw_M) : Option (xw_M × Nat) := (if a1 < 0 then some (h, (k0 + 33)) else (if a1 < (4 : Int32) then if xo_ix a1 4 = true then some (h, (xw_el 8 (k0 + 1) (Int32.toNatClampNeg a1))) else none else some (h, (k0 + 33))))
set_option maxHeartbeats 4000000 in
set_option maxRecDepth 100000 in
theorem mcX1_channelAt (l : Launch) (G : xw_G) {k0 : Nat} {a1 : Int32} (hk0 : xw_kd k0 = 1) {h : xw_M} {q : xw_M × Nat} (hR : mX1_channelAt k0 a1 h = some q) : xc_M l G yX1_channelAt cX1_channelAt 3 (some (.object "WaterFibers$Channel")) 0 0 [.ref (xg_ad G k0), .int a1] h q.1 (some (.ref (xg_ad G q.2))) := by
  refine xc_of (by decide +kernel) rfl (Nat.le_of_ble_eq_true rfl) ?_
  intro p e s m args below meth c C hr
  have C : xj_C p s m args meth c G RX1 cX1_channelAt 3 := C
  show xj_X p l e { frames := 0, cells := 0, slots := 0, locals := 0 } s m args below meth c G 3 0 0 (MQ below (xw_Q G (some (.ref (xg_ad G q.2))) q.1) args s 0 0 (xg_A G)) h [some (.ref (xg_ad G k0)), some (.int a1), none] 0 []
  unfold mX1_channelAt at hR
  refine xr_iload_n C dX1_channelAt_0 rfl ?_
  refine xr_if_lt (tgt := 13) C dX1_channelAt_1 (by decide) hR (fun hR => ?_) (fun hR => ?_)
  · refine xr_aload_n C dX1_channelAt_13 rfl ?_
    refine xr_get C hk0 fl_RX1_24 rfl dX1_channelAt_14 ?_
    exact xr_aret C hr dX1_channelAt_17 hR
  · refine xr_iload_n C dX1_channelAt_4 rfl ?_
    refine xr_aload_n C dX1_channelAt_5 rfl ?_
    refine xr_get C hk0 fl_RX1_11 rfl dX1_channelAt_6 ?_
    refine xr_alenR (v := 4) C (kp_1_0 hk0) rfl (by decide) dX1_channelAt_9 ?_
    refine xr_icmp_lt (tgt := 18) C dX1_channelAt_10 (by decide) hR (fun hR => ?_) (fun hR => ?_)
    · refine xr_aload_n C dX1_channelAt_18 rfl ?_
      refine xr_get C hk0 fl_RX1_11 rfl dX1_channelAt_19 ?_
      refine xr_iload_n C dX1_channelAt_22 rfl ?_
      refine xr_aald C (kp_1_0 hk0) rfl dX1_channelAt_23 hR (fun hx1 hR => ?_)
      refine xr_astore_n C dX1_channelAt_24 rfl (by decide) ?_
      refine xr_aload_n C dX1_channelAt_25 rfl ?_
      refine xr_ifnonnull (tgt := 36) C dX1_channelAt_26 (by decide) ?_
      refine xr_aload_n C dX1_channelAt_36 rfl ?_
      exact xr_aret C hr dX1_channelAt_37 hR
    · refine xr_aload_n C dX1_channelAt_13 rfl ?_
      refine xr_get C hk0 fl_RX1_24 rfl dX1_channelAt_14 ?_
      exact xr_aret C hr dX1_channelAt_17 hR
theorem kr_X1_channelAt {k0 : Nat} {a1 : Int32} {h : xw_M} {r : xw_M × Nat} (hk0 : xw_kd k0 = 1) (hR : mX1_channelAt k0 a1 h = some r) : xw_kd r.2 = 0 := by
  unfold mX1_channelAt at hR
  split at hR <;> (try split at hR) <;> (try split at hR) <;> first | (cases hR; exact kp_1_2 hk0) | (cases hR; exact kl_8 (kp_1_0 hk0) (by assumption)) | (cases hR; done)
end
section
def mX1_fiberAt (k0 : Nat) (a1 : Int32) (h : xw_M) : Option (xw_M × Nat) := (if a1 < 0 then some (h, (k0 + 160)) else (if a1 < (8 : Int32) then if xo_ix a1 8 = true then some (h, (xw_el 9 (k0 + 2) (Int32.toNatClampNeg a1))) else none else some (h, (k0 + 160))))
set_option maxHeartbeats 4000000 in
set_option maxRecDepth 100000 in
theorem mcX1_fiberAt (l : Launch) (G : xw_G) {k0 : Nat} {a1 : Int32} (hk0 : xw_kd k0 = 1) {h : xw_M} {q : xw_M × Nat} (hR : mX1_fiberAt k0 a1 h = some q) : xc_M l G yX1_fiberAt cX1_fiberAt 3 (some (.object "WaterFibers$Fiber")) 0 0 [.ref (xg_ad G k0), .int a1] h q.1 (some (.ref (xg_ad G q.2))) := by
  refine xc_of (by decide +kernel) rfl (Nat.le_of_ble_eq_true rfl) ?_
  intro p e s m args below meth c C hr
  have C : xj_C p s m args meth c G RX1 cX1_fiberAt 3 := C
  show xj_X p l e { frames := 0, cells := 0, slots := 0, locals := 0 } s m args below meth c G 3 0 0 (MQ below (xw_Q G (some (.ref (xg_ad G q.2))) q.1) args s 0 0 (xg_A G)) h [some (.ref (xg_ad G k0)), some (.int a1), none] 0 []
  unfold mX1_fiberAt at hR
  refine xr_iload_n C dX1_fiberAt_0 rfl ?_
  refine xr_if_lt (tgt := 13) C dX1_fiberAt_1 (by decide) hR (fun hR => ?_) (fun hR => ?_)
  · refine xr_aload_n C dX1_fiberAt_13 rfl ?_
    refine xr_get C hk0 fl_RX1_31 rfl dX1_fiberAt_14 ?_
    exact xr_aret C hr dX1_fiberAt_17 hR
  · refine xr_iload_n C dX1_fiberAt_4 rfl ?_
    refine xr_aload_n C dX1_fiberAt_5 rfl ?_
    refine xr_get C hk0 fl_RX1_19 rfl dX1_fiberAt_6 ?_
    refine xr_alenR (v := 8) C (kp_1_1 hk0) rfl (by decide) dX1_fiberAt_9 ?_
    refine xr_icmp_lt (tgt := 18) C dX1_fiberAt_10 (by decide) hR (fun hR => ?_) (fun hR => ?_)
    · refine xr_aload_n C dX1_fiberAt_18 rfl ?_
      refine xr_get C hk0 fl_RX1_19 rfl dX1_fiberAt_19 ?_
      refine xr_iload_n C dX1_fiberAt_22 rfl ?_
      refine xr_aald C (kp_1_1 hk0) rfl dX1_fiberAt_23 hR (fun hx1 hR => ?_)
      refine xr_astore_n C dX1_fiberAt_24 rfl (by decide) ?_
      refine xr_aload_n C dX1_fiberAt_25 rfl ?_
      refine xr_ifnonnull (tgt := 36) C dX1_fiberAt_26 (by decide) ?_
      refine xr_aload_n C dX1_fiberAt_36 rfl ?_
      exact xr_aret C hr dX1_fiberAt_37 hR
    · refine xr_aload_n C dX1_fiberAt_13 rfl ?_
      refine xr_get C hk0 fl_RX1_31 rfl dX1_fiberAt_14 ?_
      exact xr_aret C hr dX1_fiberAt_17 hR
theorem kr_X1_fiberAt {k0 : Nat} {a1 : Int32} {h : xw_M} {r : xw_M × Nat} (hk0 : xw_kd k0 = 1) (hR : mX1_fiberAt k0 a1 h = some r) : xw_kd r.2 = 2 := by
  unfold mX1_fiberAt at hR
  split at hR <;> (try split at hR) <;> (try split at hR) <;> first | (cases hR; exact kp_1_3 hk0) | (cases hR; exact kl_9 (kp_1_1 hk0) (by assumption)) | (cases hR; done)
end
section
def mX1_becomeLike_b74  (k0 : Nat) (k1 : Nat) : Nat → xw_M → Int32 → Option (xw_M × Unit)
  | 0, _, _ => none
  | n + 1, h, a2 => (if (h k0 6) ≤ a2 then some (h, ()) else (mX1_fiberAt k0 a2 h).bind fun r6 => (mX1_fiberAt k1 a2 r6.1).bind fun r7 => (mX2_becomeLike r6.2 r7.2 r7.1).bind fun r8 => mX1_becomeLike_b74  k0 k1 n r8.1 ((a2 + 1)))
def mX1_becomeLike_b45  (k0 : Nat) (k1 : Nat) : Nat → xw_M → Int32 → Option (xw_M × Unit)
  | 0, _, _ => none
  | n + 1, h, a2 => (if (h k0 5) ≤ a2 then mX1_becomeLike_b74  (k0) (k1) xo_n h ((0 : Int32)) else (mX1_channelAt k0 a2 h).bind fun r9 => (mX1_channelAt k1 a2 r9.1).bind fun r10 => (mX0_becomeLike r9.2 r10.2 r10.1).bind fun r11 => mX1_becomeLike_b45  k0 k1 n r11.1 ((a2 + 1)))
def mX1_becomeLike (k0 : Nat) (k1 : Nat) (h : xw_M) : Option (xw_M × Unit) := xo_let (xw_st h k0 5 (h k1 5)) fun h1 => xo_let (xw_st h1 k0 6 (h1 k1 6)) fun h2 => xo_let (xw_st h2 k0 7 (h2 k1 7)) fun h3 => xo_let (xw_st h3 k0 8 (h3 k1 8)) fun h4 => (mX3_becomeLike (k0 + 3) (k1 + 3) h4).bind fun r5 => mX1_becomeLike_b45  (k0) (k1) xo_n r5.1 ((0 : Int32))
set_option maxHeartbeats 4000000 in
set_option maxRecDepth 100000 in
theorem mbX1_becomeLike_b74 {p : Program} {l : Launch} {e : Env} {s : State} {m : MethodId} {args : Array Value} {below : List Frame} {meth : Method} {c : Code} {G : xw_G} (C : xj_C p s m args meth c G RX1 cX1_becomeLike 3) (hr : meth.sig.returnType = none) {q : xw_M × Unit} {k0 : Nat} {k1 : Nat}  (hk0 : xw_kd k0 = 1) (hk1 : xw_kd k1 = 1) : ∀ (n : Nat) (h : xw_M) (a2 : Int32), mX1_becomeLike_b74  k0 k1 n h a2 = some q → xj_X p l e { frames := 3, cells := 0, slots := 0, locals := 64 } s m args below meth c G 3 0 0 (MQ below (xw_Q G none q.1) args s 0 0 (xg_A G)) h [some (.ref (xg_ad G k0)), some (.ref (xg_ad G k1)), some (.int a2)] 74 [] := by
  intro n
  induction n with
  | zero => intro h a2 hR; exact absurd (show (none : Option (xw_M × Unit)) = some q from hR) (fun z => by cases z)
  | succ n ih =>
    intro h a2 hR
    rw [mX1_becomeLike_b74.eq_2] at hR
    refine xr_iload_n C dX1_becomeLike_74 rfl ?_
    refine xr_aload_n C dX1_becomeLike_75 rfl ?_
    refine xr_get C hk0 fl_RX1_46 rfl dX1_becomeLike_76 ?_
    refine xr_icmp_ge (tgt := 101) C dX1_becomeLike_79 (by decide) hR (fun hR => ?_) (fun hR => ?_)
    · exact xr_vret C hr dX1_becomeLike_101 hR
    · refine xr_aload_n C dX1_becomeLike_82 rfl ?_
      refine xr_iload_n C dX1_becomeLike_83 rfl ?_
      refine xr_callVr C (st := []) [.int a2] cv_RX1_66 hk0 (fun _ zz9 => mcX1_fiberAt l G hk0 zz9) rfl ⟨Nat.le_of_ble_eq_true rfl, Nat.le_of_ble_eq_true rfl⟩ (Nat.le_of_ble_eq_true rfl) ⟨Nat.zero_le _, Nat.zero_le _⟩ rfl dX1_becomeLike_84 hR (fun r6 hr6 hR => ?_)
      refine xr_aload_n C dX1_becomeLike_87 rfl ?_
      refine xr_iload_n C dX1_becomeLike_88 rfl ?_
      refine xr_callVr C (st := [.ref (xg_ad G r6.2)]) [.int a2] cv_RX1_66 hk1 (fun _ zz9 => mcX1_fiberAt l G hk1 zz9) rfl ⟨Nat.le_of_ble_eq_true rfl, Nat.le_of_ble_eq_true rfl⟩ (Nat.le_of_ble_eq_true rfl) ⟨Nat.zero_le _, Nat.zero_le _⟩ rfl dX1_becomeLike_89 hR (fun r7 hr7 hR => ?_)
      refine xr_callVv C (st := []) [.ref (xg_ad G r7.2)] cv_RX1_70 (kr_X1_fiberAt hk0 hr6) (fun _ zz9 => mcX2_becomeLike l G (kr_X1_fiberAt hk0 hr6) (kr_X1_fiberAt hk1 hr7) zz9) rfl ⟨Nat.le_of_ble_eq_true rfl, Nat.le_of_ble_eq_true rfl⟩ (Nat.le_of_ble_eq_true rfl) ⟨Nat.zero_le _, Nat.zero_le _⟩ rfl dX1_becomeLike_92 hR (fun r8 hr8 hR => ?_)
      refine xr_iinc (v := 1) C dX1_becomeLike_95 rfl (by decide) rfl (by decide) ?_
      refine xr_goto (tgt := 74) C dX1_becomeLike_98 (by decide) ?_
      exact xr_sub (lv9 := [some (.ref (xg_ad G k0)), some (.ref (xg_ad G k1)), some (.int (a2 + 1))]) (And.intro rfl (And.intro rfl (And.intro rfl trivial))) (ih _ _  hR)
set_option maxHeartbeats 4000000 in
set_option maxRecDepth 100000 in
theorem mbX1_becomeLike_b45 {p : Program} {l : Launch} {e : Env} {s : State} {m : MethodId} {args : Array Value} {below : List Frame} {meth : Method} {c : Code} {G : xw_G} (C : xj_C p s m args meth c G RX1 cX1_becomeLike 3) (hr : meth.sig.returnType = none) {q : xw_M × Unit} {k0 : Nat} {k1 : Nat}  (hk0 : xw_kd k0 = 1) (hk1 : xw_kd k1 = 1) : ∀ (n : Nat) (h : xw_M) (a2 : Int32), mX1_becomeLike_b45  k0 k1 n h a2 = some q → xj_X p l e { frames := 3, cells := 0, slots := 0, locals := 64 } s m args below meth c G 3 0 0 (MQ below (xw_Q G none q.1) args s 0 0 (xg_A G)) h [some (.ref (xg_ad G k0)), some (.ref (xg_ad G k1)), some (.int a2)] 45 [] := by
  intro n
  induction n with
  | zero => intro h a2 hR; exact absurd (show (none : Option (xw_M × Unit)) = some q from hR) (fun z => by cases z)
  | succ n ih =>
    intro h a2 hR
    rw [mX1_becomeLike_b45.eq_2] at hR
    refine xr_iload_n C dX1_becomeLike_45 rfl ?_
    refine xr_aload_n C dX1_becomeLike_46 rfl ?_
    refine xr_get C hk0 fl_RX1_42 rfl dX1_becomeLike_47 ?_
    refine xr_icmp_ge (tgt := 72) C dX1_becomeLike_50 (by decide) hR (fun hR => ?_) (fun hR => ?_)
    · refine xr_iconst (v := 0) C dX1_becomeLike_72 (by decide) ?_
      refine xr_istore_n C dX1_becomeLike_73 rfl (by decide) ?_
      exact xr_sub (lv9 := [some (.ref (xg_ad G k0)), some (.ref (xg_ad G k1)), some (.int (0 : Int32))]) (And.intro rfl (And.intro rfl (And.intro rfl trivial))) (mbX1_becomeLike_b74 C hr  hk0 hk1 _ _ _  hR)
    · refine xr_aload_n C dX1_becomeLike_53 rfl ?_
      refine xr_iload_n C dX1_becomeLike_54 rfl ?_
      refine xr_callVr C (st := []) [.int a2] cv_RX1_59 hk0 (fun _ zz9 => mcX1_channelAt l G hk0 zz9) rfl ⟨Nat.le_of_ble_eq_true rfl, Nat.le_of_ble_eq_true rfl⟩ (Nat.le_of_ble_eq_true rfl) ⟨Nat.zero_le _, Nat.zero_le _⟩ rfl dX1_becomeLike_55 hR (fun r9 hr9 hR => ?_)
      refine xr_aload_n C dX1_becomeLike_58 rfl ?_
      refine xr_iload_n C dX1_becomeLike_59 rfl ?_
      refine xr_callVr C (st := [.ref (xg_ad G r9.2)]) [.int a2] cv_RX1_59 hk1 (fun _ zz9 => mcX1_channelAt l G hk1 zz9) rfl ⟨Nat.le_of_ble_eq_true rfl, Nat.le_of_ble_eq_true rfl⟩ (Nat.le_of_ble_eq_true rfl) ⟨Nat.zero_le _, Nat.zero_le _⟩ rfl dX1_becomeLike_60 hR (fun r10 hr10 hR => ?_)
      refine xr_callVv C (st := []) [.ref (xg_ad G r10.2)] cv_RX1_63 (kr_X1_channelAt hk0 hr9) (fun _ zz9 => mcX0_becomeLike l G (kr_X1_channelAt hk0 hr9) (kr_X1_channelAt hk1 hr10) zz9) rfl ⟨Nat.le_of_ble_eq_true rfl, Nat.le_of_ble_eq_true rfl⟩ (Nat.le_of_ble_eq_true rfl) ⟨Nat.zero_le _, Nat.zero_le _⟩ rfl dX1_becomeLike_63 hR (fun r11 hr11 hR => ?_)
      refine xr_iinc (v := 1) C dX1_becomeLike_66 rfl (by decide) rfl (by decide) ?_
      refine xr_goto (tgt := 45) C dX1_becomeLike_69 (by decide) ?_
      exact xr_sub (lv9 := [some (.ref (xg_ad G k0)), some (.ref (xg_ad G k1)), some (.int (a2 + 1))]) (And.intro rfl (And.intro rfl (And.intro rfl trivial))) (ih _ _  hR)
set_option maxHeartbeats 4000000 in
set_option maxRecDepth 100000 in
theorem mcX1_becomeLike (l : Launch) (G : xw_G) {k0 : Nat} {k1 : Nat} (hk0 : xw_kd k0 = 1) (hk1 : xw_kd k1 = 1) {h : xw_M} {q : xw_M × Unit} (hR : mX1_becomeLike k0 k1 h = some q) : xc_M l G yX1_becomeLike cX1_becomeLike 3 none 3 64 [.ref (xg_ad G k0), .ref (xg_ad G k1)] h q.1 none := by
  refine xc_of (by decide +kernel) rfl (Nat.le_of_ble_eq_true rfl) ?_
  intro p e s m args below meth c C hr
  have C : xj_C p s m args meth c G RX1 cX1_becomeLike 3 := C
  show xj_X p l e { frames := 3, cells := 0, slots := 0, locals := 64 } s m args below meth c G 3 0 0 (MQ below (xw_Q G none q.1) args s 0 0 (xg_A G)) h [some (.ref (xg_ad G k0)), some (.ref (xg_ad G k1)), none] 0 []
  unfold mX1_becomeLike at hR
  refine xr_aload_n C dX1_becomeLike_0 rfl ?_
  refine xr_aload_n C dX1_becomeLike_1 rfl ?_
  refine xr_get C hk1 fl_RX1_42 rfl dX1_becomeLike_2 ?_
  refine xr_putL C hk0 fl_RX1_42 pf_1_5 dX1_becomeLike_5 hR (fun h1 hR => ?_)
  refine xr_aload_n C dX1_becomeLike_8 rfl ?_
  refine xr_aload_n C dX1_becomeLike_9 rfl ?_
  refine xr_get C hk1 fl_RX1_46 rfl dX1_becomeLike_10 ?_
  refine xr_putL C hk0 fl_RX1_46 pf_1_6 dX1_becomeLike_13 hR (fun h2 hR => ?_)
  refine xr_aload_n C dX1_becomeLike_16 rfl ?_
  refine xr_aload_n C dX1_becomeLike_17 rfl ?_
  refine xr_get C hk1 fl_RX1_49 rfl dX1_becomeLike_18 ?_
  refine xr_putL C hk0 fl_RX1_49 pf_1_7 dX1_becomeLike_21 hR (fun h3 hR => ?_)
  refine xr_aload_n C dX1_becomeLike_24 rfl ?_
  refine xr_aload_n C dX1_becomeLike_25 rfl ?_
  refine xr_get C hk1 fl_RX1_52 rfl dX1_becomeLike_26 ?_
  refine xr_putL C hk0 fl_RX1_52 pf_1_8 dX1_becomeLike_29 hR (fun h4 hR => ?_)
  refine xr_aload_n C dX1_becomeLike_32 rfl ?_
  refine xr_get C hk0 fl_RX1_38 rfl dX1_becomeLike_33 ?_
  refine xr_aload_n C dX1_becomeLike_36 rfl ?_
  refine xr_get C hk1 fl_RX1_38 rfl dX1_becomeLike_37 ?_
  refine xr_callVv C (st := []) [.ref (xg_ad G (k1 + 3))] cv_RX1_55 (kp_1_4 hk0) (fun _ zz9 => mcX3_becomeLike l G (kp_1_4 hk0) (kp_1_4 hk1) zz9) rfl ⟨Nat.le_of_ble_eq_true rfl, Nat.le_of_ble_eq_true rfl⟩ (Nat.le_of_ble_eq_true rfl) ⟨Nat.zero_le _, Nat.zero_le _⟩ rfl dX1_becomeLike_40 hR (fun r5 hr5 hR => ?_)
  refine xr_iconst (v := 0) C dX1_becomeLike_43 (by decide) ?_
  refine xr_istore_n C dX1_becomeLike_44 rfl (by decide) ?_
  exact xr_sub (lv9 := [some (.ref (xg_ad G k0)), some (.ref (xg_ad G k1)), some (.int (0 : Int32))]) (And.intro rfl (And.intro rfl (And.intro rfl trivial))) (mbX1_becomeLike_b45 C hr  hk0 hk1 _ _ _  hR)
end
section
def mX1_countDone_b27 (K4 : xw_M → Int32 → Int32 → Option (xw_M × Int32)) (k0 : Nat) (a1 : Int32) (a2 : Int32) (h : xw_M)  : Option (xw_M × Int32) := K4 h (a1) ((a2 + 1))
def mX1_countDone_b4  (k0 : Nat) : Nat → xw_M → Int32 → Int32 → Option (xw_M × Int32)
  | 0, _, _, _ => none
  | n + 1, h, a1, a2 => (if (h k0 6) ≤ a2 then some (h, a1) else (mX1_fiberAt k0 a2 h).bind fun r1 => (if (r1.1 r1.2 1) = (5 : Int32) then mX1_countDone_b27 (mX1_countDone_b4  k0 n) (k0) ((a1 + 1)) (a2) r1.1  else mX1_countDone_b27 (mX1_countDone_b4  k0 n) (k0) (a1) (a2) r1.1 ))
def mX1_countDone (k0 : Nat) (h : xw_M) : Option (xw_M × Int32) := mX1_countDone_b4  (k0) xo_n h ((0 : Int32)) ((0 : Int32))
set_option maxHeartbeats 4000000 in
set_option maxRecDepth 100000 in
theorem mbX1_countDone_b27 {p : Program} {l : Launch} {e : Env} {s : State} {m : MethodId} {args : Array Value} {below : List Frame} {meth : Method} {c : Code} {G : xw_G} (C : xj_C p s m args meth c G RX1 cX1_countDone 3) (hr : meth.sig.returnType = (some .int)) {q : xw_M × Int32} {K4 : xw_M → Int32 → Int32 → Option (xw_M × Int32)} {k0 : Nat} {a1 : Int32} {a2 : Int32} (hK4 : ∀ (h : xw_M) (a1 : Int32) (a2 : Int32), K4 h a1 a2 = some q → xj_X p l e { frames := 1, cells := 0, slots := 0, locals := 22 } s m args below meth c G 3 0 0 (MQ below (xw_Q G (some (.int q.2)) q.1) args s 0 0 (xg_A G)) h [some (.ref (xg_ad G k0)), some (.int a1), some (.int a2)] 4 []) (hk0 : xw_kd k0 = 1) {h : xw_M}   (hR : mX1_countDone_b27 K4 k0 a1 a2 h  = some q) : xj_X p l e { frames := 1, cells := 0, slots := 0, locals := 22 } s m args below meth c G 3 0 0 (MQ below (xw_Q G (some (.int q.2)) q.1) args s 0 0 (xg_A G)) h [some (.ref (xg_ad G k0)), some (.int a1), some (.int a2)] 27 [] := by
  unfold mX1_countDone_b27 at hR
  refine xr_iinc (v := 1) C dX1_countDone_27 rfl (by decide) rfl (by decide) ?_
  refine xr_goto (tgt := 4) C dX1_countDone_30 (by decide) ?_
  exact xr_sub (lv9 := [some (.ref (xg_ad G k0)), some (.int a1), some (.int (a2 + 1))]) (And.intro rfl (And.intro rfl (And.intro rfl trivial))) (hK4 _ _ _  hR)
set_option maxHeartbeats 4000000 in
set_option maxRecDepth 100000 in
theorem mbX1_countDone_b4 {p : Program} {l : Launch} {e : Env} {s : State} {m : MethodId} {args : Array Value} {below : List Frame} {meth : Method} {c : Code} {G : xw_G} (C : xj_C p s m args meth c G RX1 cX1_countDone 3) (hr : meth.sig.returnType = (some .int)) {q : xw_M × Int32} {k0 : Nat}  (hk0 : xw_kd k0 = 1) : ∀ (n : Nat) (h : xw_M) (a1 : Int32) (a2 : Int32), mX1_countDone_b4  k0 n h a1 a2 = some q → xj_X p l e { frames := 1, cells := 0, slots := 0, locals := 22 } s m args below meth c G 3 0 0 (MQ below (xw_Q G (some (.int q.2)) q.1) args s 0 0 (xg_A G)) h [some (.ref (xg_ad G k0)), some (.int a1), some (.int a2)] 4 [] := by
  intro n
  induction n with
  | zero => intro h a1 a2 hR; exact absurd (show (none : Option (xw_M × Int32)) = some q from hR) (fun z => by cases z)
  | succ n ih =>
    intro h a1 a2 hR
    rw [mX1_countDone_b4.eq_2] at hR
    refine xr_iload_n C dX1_countDone_4 rfl ?_
    refine xr_aload_n C dX1_countDone_5 rfl ?_
    refine xr_get C hk0 fl_RX1_46 rfl dX1_countDone_6 ?_
    refine xr_icmp_ge (tgt := 33) C dX1_countDone_9 (by decide) hR (fun hR => ?_) (fun hR => ?_)
    · refine xr_iload_n C dX1_countDone_33 rfl ?_
      exact xr_iret C hr dX1_countDone_34 hR
    · refine xr_aload_n C dX1_countDone_12 rfl ?_
      refine xr_iload_n C dX1_countDone_13 rfl ?_
      refine xr_callVr C (st := []) [.int a2] cv_RX1_66 hk0 (fun _ zz9 => mcX1_fiberAt l G hk0 zz9) rfl ⟨Nat.le_of_ble_eq_true rfl, Nat.le_of_ble_eq_true rfl⟩ (Nat.le_of_ble_eq_true rfl) ⟨Nat.zero_le _, Nat.zero_le _⟩ rfl dX1_countDone_14 hR (fun r1 hr1 hR => ?_)
      refine xr_get C (kr_X1_fiberAt hk0 hr1) fl_RX1_73 rfl dX1_countDone_17 ?_
      refine xr_iconst (v := 5) C dX1_countDone_20 (by decide) ?_
      refine xr_icmp_ne (tgt := 27) C dX1_countDone_21 (by decide) hR (fun hR => ?_) (fun hR => ?_)
      · exact xr_sub (lv9 := [some (.ref (xg_ad G k0)), some (.int a1), some (.int a2)]) (And.intro rfl (And.intro rfl (And.intro rfl trivial))) (mbX1_countDone_b27 C hr ih hk0  hR)
      · refine xr_iinc (v := 1) C dX1_countDone_24 rfl (by decide) rfl (by decide) ?_
        exact xr_sub (lv9 := [some (.ref (xg_ad G k0)), some (.int (a1 + 1)), some (.int a2)]) (And.intro rfl (And.intro rfl (And.intro rfl trivial))) (mbX1_countDone_b27 C hr ih hk0  hR)
set_option maxHeartbeats 4000000 in
set_option maxRecDepth 100000 in
theorem mcX1_countDone (l : Launch) (G : xw_G) {k0 : Nat} (hk0 : xw_kd k0 = 1) {h : xw_M} {q : xw_M × Int32} (hR : mX1_countDone k0 h = some q) : xc_M l G yX1_countDone cX1_countDone 3 (some .int) 1 22 [.ref (xg_ad G k0)] h q.1 (some (.int q.2)) := by
  refine xc_of (by decide +kernel) rfl (Nat.le_of_ble_eq_true rfl) ?_
  intro p e s m args below meth c C hr
  have C : xj_C p s m args meth c G RX1 cX1_countDone 3 := C
  show xj_X p l e { frames := 1, cells := 0, slots := 0, locals := 22 } s m args below meth c G 3 0 0 (MQ below (xw_Q G (some (.int q.2)) q.1) args s 0 0 (xg_A G)) h [some (.ref (xg_ad G k0)), none, none] 0 []
  unfold mX1_countDone at hR
  refine xr_iconst (v := 0) C dX1_countDone_0 (by decide) ?_
  refine xr_istore_n C dX1_countDone_1 rfl (by decide) ?_
  refine xr_iconst (v := 0) C dX1_countDone_2 (by decide) ?_
  refine xr_istore_n C dX1_countDone_3 rfl (by decide) ?_
  exact xr_sub (lv9 := [some (.ref (xg_ad G k0)), some (.int (0 : Int32)), some (.int (0 : Int32))]) (And.intro rfl (And.intro rfl (And.intro rfl trivial))) (mbX1_countDone_b4 C hr  hk0 _ _ _ _  hR)
end
section
def mX1_allAreDone (k0 : Nat) (h : xw_M) : Option (xw_M × Int32) := (mX1_countDone k0 h).bind fun r1 => (if r1.2 = (r1.1 k0 6) then some (r1.1, (1 : Int32)) else some (r1.1, (0 : Int32)))
set_option maxHeartbeats 4000000 in
set_option maxRecDepth 100000 in
theorem mcX1_allAreDone (l : Launch) (G : xw_G) {k0 : Nat} (hk0 : xw_kd k0 = 1) {h : xw_M} {q : xw_M × Int32} (hR : mX1_allAreDone k0 h = some q) : xc_M l G yX1_allAreDone cX1_allAreDone 1 (some .boolean) 2 44 [.ref (xg_ad G k0)] h q.1 (some (.int q.2)) := by
  refine xc_of (by decide +kernel) rfl (Nat.le_of_ble_eq_true rfl) ?_
  intro p e s m args below meth c C hr
  have C : xj_C p s m args meth c G RX1 cX1_allAreDone 1 := C
  show xj_X p l e { frames := 2, cells := 0, slots := 0, locals := 44 } s m args below meth c G 1 0 0 (MQ below (xw_Q G (some (.int q.2)) q.1) args s 0 0 (xg_A G)) h [some (.ref (xg_ad G k0))] 0 []
  unfold mX1_allAreDone at hR
  refine xr_aload_n C dX1_allAreDone_0 rfl ?_
  refine xr_callVi C (st := []) [] cv_RX1_76 hk0 (fun _ zz9 => mcX1_countDone l G hk0 zz9) rfl ⟨Nat.le_of_ble_eq_true rfl, Nat.le_of_ble_eq_true rfl⟩ (Nat.le_of_ble_eq_true rfl) ⟨Nat.zero_le _, Nat.zero_le _⟩ rfl dX1_allAreDone_1 hR (fun r1 hr1 hR => ?_)
  refine xr_aload_n C dX1_allAreDone_4 rfl ?_
  refine xr_get C hk0 fl_RX1_46 rfl dX1_allAreDone_5 ?_
  refine xr_icmp_ne (tgt := 15) C dX1_allAreDone_8 (by decide) hR (fun hR => ?_) (fun hR => ?_)
  · refine xr_iconst (v := 0) C dX1_allAreDone_15 (by decide) ?_
    exact xr_zret C hr (Or.inl rfl) dX1_allAreDone_16 hR
  · refine xr_iconst (v := 1) C dX1_allAreDone_11 (by decide) ?_
    refine xr_goto (tgt := 16) C dX1_allAreDone_12 (by decide) ?_
    exact xr_zret C hr (Or.inr rfl) dX1_allAreDone_16 hR
end
section
def mX1_hasStopped_b2  (k0 : Nat) : Nat → xw_M → Int32 → Option (xw_M × Int32)
  | 0, _, _ => none
  | n + 1, h, a1 => (if (h k0 6) ≤ a1 then some (h, (1 : Int32)) else (mX1_fiberAt k0 a1 h).bind fun r1 => (if (r1.1 r1.2 1) = 0 then some (r1.1, (0 : Int32)) else (if (r1.1 r1.2 1) = (3 : Int32) then some (r1.1, (0 : Int32)) else mX1_hasStopped_b2  k0 n r1.1 ((a1 + 1)))))
def mX1_hasStopped (k0 : Nat) (h : xw_M) : Option (xw_M × Int32) := mX1_hasStopped_b2  (k0) xo_n h ((0 : Int32))
set_option maxHeartbeats 4000000 in
set_option maxRecDepth 100000 in
theorem mbX1_hasStopped_b2 {p : Program} {l : Launch} {e : Env} {s : State} {m : MethodId} {args : Array Value} {below : List Frame} {meth : Method} {c : Code} {G : xw_G} (C : xj_C p s m args meth c G RX1 cX1_hasStopped 3) (hr : meth.sig.returnType = (some .boolean)) {q : xw_M × Int32} {k0 : Nat}  (hk0 : xw_kd k0 = 1) : ∀ (n : Nat) (h : xw_M) (a1 : Int32), mX1_hasStopped_b2  k0 n h a1 = some q → xj_X p l e { frames := 1, cells := 0, slots := 0, locals := 22 } s m args below meth c G 3 0 0 (MQ below (xw_Q G (some (.int q.2)) q.1) args s 0 0 (xg_A G)) h [some (.ref (xg_ad G k0)), some (.int a1), none] 2 [] := by
  intro n
  induction n with
  | zero => intro h a1 hR; exact absurd (show (none : Option (xw_M × Int32)) = some q from hR) (fun z => by cases z)
  | succ n ih =>
    intro h a1 hR
    rw [mX1_hasStopped_b2.eq_2] at hR
    refine xr_iload_n C dX1_hasStopped_2 rfl ?_
    refine xr_aload_n C dX1_hasStopped_3 rfl ?_
    refine xr_get C hk0 fl_RX1_46 rfl dX1_hasStopped_4 ?_
    refine xr_icmp_ge (tgt := 36) C dX1_hasStopped_7 (by decide) hR (fun hR => ?_) (fun hR => ?_)
    · refine xr_iconst (v := 1) C dX1_hasStopped_36 (by decide) ?_
      exact xr_zret C hr (Or.inr rfl) dX1_hasStopped_37 hR
    · refine xr_aload_n C dX1_hasStopped_10 rfl ?_
      refine xr_iload_n C dX1_hasStopped_11 rfl ?_
      refine xr_callVr C (st := []) [.int a1] cv_RX1_66 hk0 (fun _ zz9 => mcX1_fiberAt l G hk0 zz9) rfl ⟨Nat.le_of_ble_eq_true rfl, Nat.le_of_ble_eq_true rfl⟩ (Nat.le_of_ble_eq_true rfl) ⟨Nat.zero_le _, Nat.zero_le _⟩ rfl dX1_hasStopped_12 hR (fun r1 hr1 hR => ?_)
      refine xr_get C (kr_X1_fiberAt hk0 hr1) fl_RX1_73 rfl dX1_hasStopped_15 ?_
      refine xr_istore_n C dX1_hasStopped_18 rfl (by decide) ?_
      refine xr_iload_n C dX1_hasStopped_19 rfl ?_
      refine xr_if_eq (tgt := 28) C dX1_hasStopped_20 (by decide) hR (fun hR => ?_) (fun hR => ?_)
      · refine xr_iconst (v := 0) C dX1_hasStopped_28 (by decide) ?_
        exact xr_zret C hr (Or.inl rfl) dX1_hasStopped_29 hR
      · refine xr_iload_n C dX1_hasStopped_23 rfl ?_
        refine xr_iconst (v := 3) C dX1_hasStopped_24 (by decide) ?_
        refine xr_icmp_ne (tgt := 30) C dX1_hasStopped_25 (by decide) hR (fun hR => ?_) (fun hR => ?_)
        · refine xr_iinc (v := 1) C dX1_hasStopped_30 rfl (by decide) rfl (by decide) ?_
          refine xr_goto (tgt := 2) C dX1_hasStopped_33 (by decide) ?_
          exact xr_sub (lv9 := [some (.ref (xg_ad G k0)), some (.int (a1 + 1)), none]) (And.intro rfl (And.intro rfl trivial)) (ih _ _  hR)
        · refine xr_iconst (v := 0) C dX1_hasStopped_28 (by decide) ?_
          exact xr_zret C hr (Or.inl rfl) dX1_hasStopped_29 hR
set_option maxHeartbeats 4000000 in
set_option maxRecDepth 100000 in
theorem mcX1_hasStopped (l : Launch) (G : xw_G) {k0 : Nat} (hk0 : xw_kd k0 = 1) {h : xw_M} {q : xw_M × Int32} (hR : mX1_hasStopped k0 h = some q) : xc_M l G yX1_hasStopped cX1_hasStopped 3 (some .boolean) 1 22 [.ref (xg_ad G k0)] h q.1 (some (.int q.2)) := by
  refine xc_of (by decide +kernel) rfl (Nat.le_of_ble_eq_true rfl) ?_
  intro p e s m args below meth c C hr
  have C : xj_C p s m args meth c G RX1 cX1_hasStopped 3 := C
  show xj_X p l e { frames := 1, cells := 0, slots := 0, locals := 22 } s m args below meth c G 3 0 0 (MQ below (xw_Q G (some (.int q.2)) q.1) args s 0 0 (xg_A G)) h [some (.ref (xg_ad G k0)), none, none] 0 []
  unfold mX1_hasStopped at hR
  refine xr_iconst (v := 0) C dX1_hasStopped_0 (by decide) ?_
  refine xr_istore_n C dX1_hasStopped_1 rfl (by decide) ?_
  exact xr_sub (lv9 := [some (.ref (xg_ad G k0)), some (.int (0 : Int32)), none]) (And.intro rfl (And.intro rfl trivial)) (mbX1_hasStopped_b2 C hr  hk0 _ _ _  hR)
end
section
def mX1_makeReady (k0 : Nat) (k1 : Nat) (h : xw_M) : Option (xw_M × Unit) := xo_let (xw_st h k1 1 (0 : Int32)) fun h1 => (mX3_addLast (k0 + 3) (h1 k1 0) h1).bind fun r2 => some (r2.1, ())
set_option maxHeartbeats 4000000 in
set_option maxRecDepth 100000 in
theorem mcX1_makeReady (l : Launch) (G : xw_G) {k0 : Nat} {k1 : Nat} (hk0 : xw_kd k0 = 1) (hk1 : xw_kd k1 = 2) {h : xw_M} {q : xw_M × Unit} (hR : mX1_makeReady k0 k1 h = some q) : xc_M l G yX1_makeReady cX1_makeReady 2 none 1 21 [.ref (xg_ad G k0), .ref (xg_ad G k1)] h q.1 none := by
  refine xc_of (by decide +kernel) rfl (Nat.le_of_ble_eq_true rfl) ?_
  intro p e s m args below meth c C hr
  have C : xj_C p s m args meth c G RX1 cX1_makeReady 2 := C
  show xj_X p l e { frames := 1, cells := 0, slots := 0, locals := 21 } s m args below meth c G 2 0 0 (MQ below (xw_Q G none q.1) args s 0 0 (xg_A G)) h [some (.ref (xg_ad G k0)), some (.ref (xg_ad G k1))] 0 []
  unfold mX1_makeReady at hR
  refine xr_aload_n C dX1_makeReady_0 rfl ?_
  refine xr_iconst (v := 0) C dX1_makeReady_1 (by decide) ?_
  refine xr_putL C hk1 fl_RX1_73 pf_2_1 dX1_makeReady_2 hR (fun h1 hR => ?_)
  refine xr_aload_n C dX1_makeReady_5 rfl ?_
  refine xr_get C hk0 fl_RX1_38 rfl dX1_makeReady_6 ?_
  refine xr_aload_n C dX1_makeReady_9 rfl ?_
  refine xr_get C hk1 fl_RX1_103 rfl dX1_makeReady_10 ?_
  refine xr_callVv C (st := []) [.int (h1 k1 0)] cv_RX1_106 (kp_1_4 hk0) (fun _ zz9 => mcX3_addLast l G (kp_1_4 hk0) zz9) rfl ⟨Nat.le_of_ble_eq_true rfl, Nat.le_of_ble_eq_true rfl⟩ (Nat.le_of_ble_eq_true rfl) ⟨Nat.zero_le _, Nat.zero_le _⟩ rfl dX1_makeReady_13 hR (fun r2 hr2 hR => ?_)
  exact xr_vret C hr dX1_makeReady_16 hR
end
section
def mX1_wakeFirst (k0 : Nat) (k1 : Nat) (h : xw_M) : Option (xw_M × Unit) := (if (h k1 1) ≤ 0 then some (h, ()) else (mX3_takeFirst k1 h).bind fun r1 => (mX1_fiberAt k0 r1.2 r1.1).bind fun r2 => xo_let (xw_st r2.1 r2.2 1 (0 : Int32)) fun h3 => (mX3_addLast (k0 + 3) (h3 r2.2 0) h3).bind fun r4 => some (r4.1, ()))
set_option maxHeartbeats 4000000 in
set_option maxRecDepth 100000 in
theorem mcX1_wakeFirst (l : Launch) (G : xw_G) {k0 : Nat} {k1 : Nat} (hk0 : xw_kd k0 = 1) (hk1 : xw_kd k1 = 3) {h : xw_M} {q : xw_M × Unit} (hR : mX1_wakeFirst k0 k1 h = some q) : xc_M l G yX1_wakeFirst cX1_wakeFirst 3 none 1 22 [.ref (xg_ad G k0), .ref (xg_ad G k1)] h q.1 none := by
  refine xc_of (by decide +kernel) rfl (Nat.le_of_ble_eq_true rfl) ?_
  intro p e s m args below meth c C hr
  have C : xj_C p s m args meth c G RX1 cX1_wakeFirst 3 := C
  show xj_X p l e { frames := 1, cells := 0, slots := 0, locals := 22 } s m args below meth c G 3 0 0 (MQ below (xw_Q G none q.1) args s 0 0 (xg_A G)) h [some (.ref (xg_ad G k0)), some (.ref (xg_ad G k1)), none] 0 []
  unfold mX1_wakeFirst at hR
  refine xr_aload_n C dX1_wakeFirst_0 rfl ?_
  refine xr_get C hk1 fl_RX1_83 rfl dX1_wakeFirst_1 ?_
  refine xr_if_le (tgt := 32) C dX1_wakeFirst_4 (by decide) hR (fun hR => ?_) (fun hR => ?_)
  · exact xr_vret C hr dX1_wakeFirst_32 hR
  · refine xr_aload_n C dX1_wakeFirst_7 rfl ?_
    refine xr_aload_n C dX1_wakeFirst_8 rfl ?_
    refine xr_callVi C (st := [.ref (xg_ad G k0)]) [] cv_RX1_86 hk1 (fun _ zz9 => mcX3_takeFirst l G hk1 zz9) rfl ⟨Nat.le_of_ble_eq_true rfl, Nat.le_of_ble_eq_true rfl⟩ (Nat.le_of_ble_eq_true rfl) ⟨Nat.zero_le _, Nat.zero_le _⟩ rfl dX1_wakeFirst_9 hR (fun r1 hr1 hR => ?_)
    refine xr_callVr C (st := []) [.int r1.2] cv_RX1_66 hk0 (fun _ zz9 => mcX1_fiberAt l G hk0 zz9) rfl ⟨Nat.le_of_ble_eq_true rfl, Nat.le_of_ble_eq_true rfl⟩ (Nat.le_of_ble_eq_true rfl) ⟨Nat.zero_le _, Nat.zero_le _⟩ rfl dX1_wakeFirst_12 hR (fun r2 hr2 hR => ?_)
    refine xr_astore_n C dX1_wakeFirst_15 rfl (by decide) ?_
    refine xr_aload_n C dX1_wakeFirst_16 rfl ?_
    refine xr_iconst (v := 0) C dX1_wakeFirst_17 (by decide) ?_
    refine xr_putL C (kr_X1_fiberAt hk0 hr2) fl_RX1_73 pf_2_1 dX1_wakeFirst_18 hR (fun h3 hR => ?_)
    refine xr_aload_n C dX1_wakeFirst_21 rfl ?_
    refine xr_get C hk0 fl_RX1_38 rfl dX1_wakeFirst_22 ?_
    refine xr_aload_n C dX1_wakeFirst_25 rfl ?_
    refine xr_get C (kr_X1_fiberAt hk0 hr2) fl_RX1_103 rfl dX1_wakeFirst_26 ?_
    refine xr_callVv C (st := []) [.int (h3 r2.2 0)] cv_RX1_106 (kp_1_4 hk0) (fun _ zz9 => mcX3_addLast l G (kp_1_4 hk0) zz9) rfl ⟨Nat.le_of_ble_eq_true rfl, Nat.le_of_ble_eq_true rfl⟩ (Nat.le_of_ble_eq_true rfl) ⟨Nat.zero_le _, Nat.zero_le _⟩ rfl dX1_wakeFirst_29 hR (fun r4 hr4 hR => ?_)
    exact xr_vret C hr dX1_wakeFirst_32 hR
end
section
def mX1_wakeSleepers_b40 (K2 : xw_M → Int32 → Option (xw_M × Unit)) (k0 : Nat) (a1 : Int32) (h : xw_M)  : Option (xw_M × Unit) := K2 h ((a1 + 1))
def mX1_wakeSleepers_b2  (k0 : Nat) : Nat → xw_M → Int32 → Option (xw_M × Unit)
  | 0, _, _ => none
  | n + 1, h, a1 => (if (h k0 6) ≤ a1 then some (h, ()) else (mX1_fiberAt k0 a1 h).bind fun r1 => (if (r1.1 r1.2 1) = (3 : Int32) then (if (r1.1 r1.2 6) = (r1.1 k0 7) then (mX1_makeReady k0 r1.2 r1.1).bind fun r2 => mX1_wakeSleepers_b40 (mX1_wakeSleepers_b2  k0 n) (k0) (a1) r2.1  else mX1_wakeSleepers_b40 (mX1_wakeSleepers_b2  k0 n) (k0) (a1) r1.1 ) else mX1_wakeSleepers_b40 (mX1_wakeSleepers_b2  k0 n) (k0) (a1) r1.1 ))
def mX1_wakeSleepers (k0 : Nat) (h : xw_M) : Option (xw_M × Unit) := mX1_wakeSleepers_b2  (k0) xo_n h ((0 : Int32))
set_option maxHeartbeats 4000000 in
set_option maxRecDepth 100000 in
theorem mbX1_wakeSleepers_b40 {p : Program} {l : Launch} {e : Env} {s : State} {m : MethodId} {args : Array Value} {below : List Frame} {meth : Method} {c : Code} {G : xw_G} (C : xj_C p s m args meth c G RX1 cX1_wakeSleepers 3) (hr : meth.sig.returnType = none) {q : xw_M × Unit} {K2 : xw_M → Int32 → Option (xw_M × Unit)} {k0 : Nat} {a1 : Int32} (hK2 : ∀ (h : xw_M) (a1 : Int32), K2 h a1 = some q → xj_X p l e { frames := 2, cells := 0, slots := 0, locals := 42 } s m args below meth c G 3 0 0 (MQ below (xw_Q G none q.1) args s 0 0 (xg_A G)) h [some (.ref (xg_ad G k0)), some (.int a1), none] 2 []) (hk0 : xw_kd k0 = 1) {h : xw_M}   (hR : mX1_wakeSleepers_b40 K2 k0 a1 h  = some q) : xj_X p l e { frames := 2, cells := 0, slots := 0, locals := 42 } s m args below meth c G 3 0 0 (MQ below (xw_Q G none q.1) args s 0 0 (xg_A G)) h [some (.ref (xg_ad G k0)), some (.int a1), none] 40 [] := by
  unfold mX1_wakeSleepers_b40 at hR
  refine xr_iinc (v := 1) C dX1_wakeSleepers_40 rfl (by decide) rfl (by decide) ?_
  refine xr_goto (tgt := 2) C dX1_wakeSleepers_43 (by decide) ?_
  exact xr_sub (lv9 := [some (.ref (xg_ad G k0)), some (.int (a1 + 1)), none]) (And.intro rfl (And.intro rfl trivial)) (hK2 _ _  hR)
set_option maxHeartbeats 4000000 in
set_option maxRecDepth 100000 in
theorem mbX1_wakeSleepers_b2 {p : Program} {l : Launch} {e : Env} {s : State} {m : MethodId} {args : Array Value} {below : List Frame} {meth : Method} {c : Code} {G : xw_G} (C : xj_C p s m args meth c G RX1 cX1_wakeSleepers 3) (hr : meth.sig.returnType = none) {q : xw_M × Unit} {k0 : Nat}  (hk0 : xw_kd k0 = 1) : ∀ (n : Nat) (h : xw_M) (a1 : Int32), mX1_wakeSleepers_b2  k0 n h a1 = some q → xj_X p l e { frames := 2, cells := 0, slots := 0, locals := 42 } s m args below meth c G 3 0 0 (MQ below (xw_Q G none q.1) args s 0 0 (xg_A G)) h [some (.ref (xg_ad G k0)), some (.int a1), none] 2 [] := by
  intro n
  induction n with
  | zero => intro h a1 hR; exact absurd (show (none : Option (xw_M × Unit)) = some q from hR) (fun z => by cases z)
  | succ n ih =>
    intro h a1 hR
    rw [mX1_wakeSleepers_b2.eq_2] at hR
    refine xr_iload_n C dX1_wakeSleepers_2 rfl ?_
    refine xr_aload_n C dX1_wakeSleepers_3 rfl ?_
    refine xr_get C hk0 fl_RX1_46 rfl dX1_wakeSleepers_4 ?_
    refine xr_icmp_ge (tgt := 46) C dX1_wakeSleepers_7 (by decide) hR (fun hR => ?_) (fun hR => ?_)
    · exact xr_vret C hr dX1_wakeSleepers_46 hR
    · refine xr_aload_n C dX1_wakeSleepers_10 rfl ?_
      refine xr_iload_n C dX1_wakeSleepers_11 rfl ?_
      refine xr_callVr C (st := []) [.int a1] cv_RX1_66 hk0 (fun _ zz9 => mcX1_fiberAt l G hk0 zz9) rfl ⟨Nat.le_of_ble_eq_true rfl, Nat.le_of_ble_eq_true rfl⟩ (Nat.le_of_ble_eq_true rfl) ⟨Nat.zero_le _, Nat.zero_le _⟩ rfl dX1_wakeSleepers_12 hR (fun r1 hr1 hR => ?_)
      refine xr_astore_n C dX1_wakeSleepers_15 rfl (by decide) ?_
      refine xr_aload_n C dX1_wakeSleepers_16 rfl ?_
      refine xr_get C (kr_X1_fiberAt hk0 hr1) fl_RX1_73 rfl dX1_wakeSleepers_17 ?_
      refine xr_iconst (v := 3) C dX1_wakeSleepers_20 (by decide) ?_
      refine xr_icmp_ne (tgt := 40) C dX1_wakeSleepers_21 (by decide) hR (fun hR => ?_) (fun hR => ?_)
      · exact xr_sub (lv9 := [some (.ref (xg_ad G k0)), some (.int a1), none]) (And.intro rfl (And.intro rfl trivial)) (mbX1_wakeSleepers_b40 C hr ih hk0  hR)
      · refine xr_aload_n C dX1_wakeSleepers_24 rfl ?_
        refine xr_get C (kr_X1_fiberAt hk0 hr1) fl_RX1_109 rfl dX1_wakeSleepers_25 ?_
        refine xr_aload_n C dX1_wakeSleepers_28 rfl ?_
        refine xr_get C hk0 fl_RX1_49 rfl dX1_wakeSleepers_29 ?_
        refine xr_icmp_ne (tgt := 40) C dX1_wakeSleepers_32 (by decide) hR (fun hR => ?_) (fun hR => ?_)
        · exact xr_sub (lv9 := [some (.ref (xg_ad G k0)), some (.int a1), none]) (And.intro rfl (And.intro rfl trivial)) (mbX1_wakeSleepers_b40 C hr ih hk0  hR)
        · refine xr_aload_n C dX1_wakeSleepers_35 rfl ?_
          refine xr_aload_n C dX1_wakeSleepers_36 rfl ?_
          refine xr_callVv C (st := []) [.ref (xg_ad G r1.2)] cv_RX1_112 hk0 (fun _ zz9 => mcX1_makeReady l G hk0 (kr_X1_fiberAt hk0 hr1) zz9) rfl ⟨Nat.le_of_ble_eq_true rfl, Nat.le_of_ble_eq_true rfl⟩ (Nat.le_of_ble_eq_true rfl) ⟨Nat.zero_le _, Nat.zero_le _⟩ rfl dX1_wakeSleepers_37 hR (fun r2 hr2 hR => ?_)
          exact xr_sub (lv9 := [some (.ref (xg_ad G k0)), some (.int a1), none]) (And.intro rfl (And.intro rfl trivial)) (mbX1_wakeSleepers_b40 C hr ih hk0  hR)
set_option maxHeartbeats 4000000 in
set_option maxRecDepth 100000 in
theorem mcX1_wakeSleepers (l : Launch) (G : xw_G) {k0 : Nat} (hk0 : xw_kd k0 = 1) {h : xw_M} {q : xw_M × Unit} (hR : mX1_wakeSleepers k0 h = some q) : xc_M l G yX1_wakeSleepers cX1_wakeSleepers 3 none 2 42 [.ref (xg_ad G k0)] h q.1 none := by
  refine xc_of (by decide +kernel) rfl (Nat.le_of_ble_eq_true rfl) ?_
  intro p e s m args below meth c C hr
  have C : xj_C p s m args meth c G RX1 cX1_wakeSleepers 3 := C
  show xj_X p l e { frames := 2, cells := 0, slots := 0, locals := 42 } s m args below meth c G 3 0 0 (MQ below (xw_Q G none q.1) args s 0 0 (xg_A G)) h [some (.ref (xg_ad G k0)), none, none] 0 []
  unfold mX1_wakeSleepers at hR
  refine xr_iconst (v := 0) C dX1_wakeSleepers_0 (by decide) ?_
  refine xr_istore_n C dX1_wakeSleepers_1 rfl (by decide) ?_
  exact xr_sub (lv9 := [some (.ref (xg_ad G k0)), some (.int (0 : Int32)), none]) (And.intro rfl (And.intro rfl trivial)) (mbX1_wakeSleepers_b2 C hr  hk0 _ _ _  hR)
end
section
def mX1_send (k0 : Nat) (k1 : Nat) (a2 : Int32) (a3 : Int32) (h : xw_M) : Option (xw_M × Unit) := (mX1_channelAt k0 a2 h).bind fun r1 => (mX0_hasRoom r1.2 r1.1).bind fun r2 => (if r2.2 = 0 then xo_let (xw_st r2.1 k1 1 (1 : Int32)) fun h3 => (mX3_addLast (r1.2 + 3) (h3 k1 0) h3).bind fun r4 => some (r4.1, ()) else (mX3_addLast (r1.2 + 1) a3 r2.1).bind fun r5 => (mX1_wakeFirst k0 (r1.2 + 5) r5.1).bind fun r6 => (mX2_moveOn k1 r6.1).bind fun r7 => some (r7.1, ()))
set_option maxHeartbeats 4000000 in
set_option maxRecDepth 100000 in
theorem mcX1_send (l : Launch) (G : xw_G) {k0 : Nat} {k1 : Nat} {a2 : Int32} {a3 : Int32} (hk0 : xw_kd k0 = 1) (hk1 : xw_kd k1 = 2) {h : xw_M} {q : xw_M × Unit} (hR : mX1_send k0 k1 a2 a3 h = some q) : xc_M l G yX1_send cX1_send 5 none 2 44 [.ref (xg_ad G k0), .ref (xg_ad G k1), .int a2, .int a3] h q.1 none := by
  refine xc_of (by decide +kernel) rfl (Nat.le_of_ble_eq_true rfl) ?_
  intro p e s m args below meth c C hr
  have C : xj_C p s m args meth c G RX1 cX1_send 5 := C
  show xj_X p l e { frames := 2, cells := 0, slots := 0, locals := 44 } s m args below meth c G 5 0 0 (MQ below (xw_Q G none q.1) args s 0 0 (xg_A G)) h [some (.ref (xg_ad G k0)), some (.ref (xg_ad G k1)), some (.int a2), some (.int a3), none] 0 []
  unfold mX1_send at hR
  refine xr_aload_n C dX1_send_0 rfl ?_
  refine xr_iload_n C dX1_send_1 rfl ?_
  refine xr_callVr C (st := []) [.int a2] cv_RX1_59 hk0 (fun _ zz9 => mcX1_channelAt l G hk0 zz9) rfl ⟨Nat.le_of_ble_eq_true rfl, Nat.le_of_ble_eq_true rfl⟩ (Nat.le_of_ble_eq_true rfl) ⟨Nat.zero_le _, Nat.zero_le _⟩ rfl dX1_send_2 hR (fun r1 hr1 hR => ?_)
  refine xr_astore C dX1_send_5 rfl (by decide) ?_
  refine xr_aload C dX1_send_7 rfl ?_
  refine xr_callVi C (st := []) [] cv_RX1_154 (kr_X1_channelAt hk0 hr1) (fun _ zz9 => mcX0_hasRoom l G (kr_X1_channelAt hk0 hr1) zz9) rfl ⟨Nat.le_of_ble_eq_true rfl, Nat.le_of_ble_eq_true rfl⟩ (Nat.le_of_ble_eq_true rfl) ⟨Nat.zero_le _, Nat.zero_le _⟩ rfl dX1_send_9 hR (fun r2 hr2 hR => ?_)
  refine xr_if_eq (tgt := 40) C dX1_send_12 (by decide) hR (fun hR => ?_) (fun hR => ?_)
  · refine xr_aload_n C dX1_send_40 rfl ?_
    refine xr_iconst (v := 1) C dX1_send_41 (by decide) ?_
    refine xr_putL C hk1 fl_RX1_73 pf_2_1 dX1_send_42 hR (fun h3 hR => ?_)
    refine xr_aload C dX1_send_45 rfl ?_
    refine xr_get C (kr_X1_channelAt hk0 hr1) fl_RX1_166 rfl dX1_send_47 ?_
    refine xr_aload_n C dX1_send_50 rfl ?_
    refine xr_get C hk1 fl_RX1_103 rfl dX1_send_51 ?_
    refine xr_callVv C (st := []) [.int (h3 k1 0)] cv_RX1_106 (kp_0_2 (kr_X1_channelAt hk0 hr1)) (fun _ zz9 => mcX3_addLast l G (kp_0_2 (kr_X1_channelAt hk0 hr1)) zz9) rfl ⟨Nat.le_of_ble_eq_true rfl, Nat.le_of_ble_eq_true rfl⟩ (Nat.le_of_ble_eq_true rfl) ⟨Nat.zero_le _, Nat.zero_le _⟩ rfl dX1_send_54 hR (fun r4 hr4 hR => ?_)
    exact xr_vret C hr dX1_send_57 hR
  · refine xr_aload C dX1_send_15 rfl ?_
    refine xr_get C (kr_X1_channelAt hk0 hr1) fl_RX1_157 rfl dX1_send_17 ?_
    refine xr_iload_n C dX1_send_20 rfl ?_
    refine xr_callVv C (st := []) [.int a3] cv_RX1_106 (kp_0_1 (kr_X1_channelAt hk0 hr1)) (fun _ zz9 => mcX3_addLast l G (kp_0_1 (kr_X1_channelAt hk0 hr1)) zz9) rfl ⟨Nat.le_of_ble_eq_true rfl, Nat.le_of_ble_eq_true rfl⟩ (Nat.le_of_ble_eq_true rfl) ⟨Nat.zero_le _, Nat.zero_le _⟩ rfl dX1_send_21 hR (fun r5 hr5 hR => ?_)
    refine xr_aload_n C dX1_send_24 rfl ?_
    refine xr_aload C dX1_send_25 rfl ?_
    refine xr_get C (kr_X1_channelAt hk0 hr1) fl_RX1_160 rfl dX1_send_27 ?_
    refine xr_callVv C (st := []) [.ref (xg_ad G (r1.2 + 5))] cv_RX1_163 hk0 (fun _ zz9 => mcX1_wakeFirst l G hk0 (kp_0_3 (kr_X1_channelAt hk0 hr1)) zz9) rfl ⟨Nat.le_of_ble_eq_true rfl, Nat.le_of_ble_eq_true rfl⟩ (Nat.le_of_ble_eq_true rfl) ⟨Nat.zero_le _, Nat.zero_le _⟩ rfl dX1_send_30 hR (fun r6 hr6 hR => ?_)
    refine xr_aload_n C dX1_send_33 rfl ?_
    refine xr_callVv C (st := []) [] cv_RX1_144 hk1 (fun _ zz9 => mcX2_moveOn l G hk1 zz9) rfl ⟨Nat.le_of_ble_eq_true rfl, Nat.le_of_ble_eq_true rfl⟩ (Nat.le_of_ble_eq_true rfl) ⟨Nat.zero_le _, Nat.zero_le _⟩ rfl dX1_send_34 hR (fun r7 hr7 hR => ?_)
    refine xr_goto (tgt := 57) C dX1_send_37 (by decide) ?_
    exact xr_vret C hr dX1_send_57 hR
end
section
def mX1_take (k0 : Nat) (k1 : Nat) (a2 : Int32) (h : xw_M) : Option (xw_M × Unit) := (mX1_channelAt k0 a2 h).bind fun r1 => (if (r1.1 (r1.2 + 1) 1) ≤ 0 then xo_let (xw_st r1.1 k1 1 (2 : Int32)) fun h2 => (mX3_addLast (r1.2 + 5) (h2 k1 0) h2).bind fun r3 => some (r3.1, ()) else (mX3_takeFirst (r1.2 + 1) r1.1).bind fun r4 => xo_let (xw_st r4.1 k1 3 ((r1.1 k1 3) + r4.2)) fun h5 => (mX1_wakeFirst k0 (r1.2 + 3) h5).bind fun r6 => (mX2_moveOn k1 r6.1).bind fun r7 => some (r7.1, ()))
set_option maxHeartbeats 4000000 in
set_option maxRecDepth 100000 in
theorem mcX1_take (l : Launch) (G : xw_G) {k0 : Nat} {k1 : Nat} {a2 : Int32} (hk0 : xw_kd k0 = 1) (hk1 : xw_kd k1 = 2) {h : xw_M} {q : xw_M × Unit} (hR : mX1_take k0 k1 a2 h = some q) : xc_M l G yX1_take cX1_take 4 none 2 44 [.ref (xg_ad G k0), .ref (xg_ad G k1), .int a2] h q.1 none := by
  refine xc_of (by decide +kernel) rfl (Nat.le_of_ble_eq_true rfl) ?_
  intro p e s m args below meth c C hr
  have C : xj_C p s m args meth c G RX1 cX1_take 4 := C
  show xj_X p l e { frames := 2, cells := 0, slots := 0, locals := 44 } s m args below meth c G 4 0 0 (MQ below (xw_Q G none q.1) args s 0 0 (xg_A G)) h [some (.ref (xg_ad G k0)), some (.ref (xg_ad G k1)), some (.int a2), none] 0 []
  unfold mX1_take at hR
  refine xr_aload_n C dX1_take_0 rfl ?_
  refine xr_iload_n C dX1_take_1 rfl ?_
  refine xr_callVr C (st := []) [.int a2] cv_RX1_59 hk0 (fun _ zz9 => mcX1_channelAt l G hk0 zz9) rfl ⟨Nat.le_of_ble_eq_true rfl, Nat.le_of_ble_eq_true rfl⟩ (Nat.le_of_ble_eq_true rfl) ⟨Nat.zero_le _, Nat.zero_le _⟩ rfl dX1_take_2 hR (fun r1 hr1 hR => ?_)
  refine xr_astore_n C dX1_take_5 rfl (by decide) ?_
  refine xr_aload_n C dX1_take_6 rfl ?_
  refine xr_get C (kr_X1_channelAt hk0 hr1) fl_RX1_157 rfl dX1_take_7 ?_
  refine xr_get C (kp_0_1 (kr_X1_channelAt hk0 hr1)) fl_RX1_83 rfl dX1_take_10 ?_
  refine xr_if_le (tgt := 47) C dX1_take_13 (by decide) hR (fun hR => ?_) (fun hR => ?_)
  · refine xr_aload_n C dX1_take_47 rfl ?_
    refine xr_iconst (v := 2) C dX1_take_48 (by decide) ?_
    refine xr_putL C hk1 fl_RX1_73 pf_2_1 dX1_take_49 hR (fun h2 hR => ?_)
    refine xr_aload_n C dX1_take_52 rfl ?_
    refine xr_get C (kr_X1_channelAt hk0 hr1) fl_RX1_160 rfl dX1_take_53 ?_
    refine xr_aload_n C dX1_take_56 rfl ?_
    refine xr_get C hk1 fl_RX1_103 rfl dX1_take_57 ?_
    refine xr_callVv C (st := []) [.int (h2 k1 0)] cv_RX1_106 (kp_0_3 (kr_X1_channelAt hk0 hr1)) (fun _ zz9 => mcX3_addLast l G (kp_0_3 (kr_X1_channelAt hk0 hr1)) zz9) rfl ⟨Nat.le_of_ble_eq_true rfl, Nat.le_of_ble_eq_true rfl⟩ (Nat.le_of_ble_eq_true rfl) ⟨Nat.zero_le _, Nat.zero_le _⟩ rfl dX1_take_60 hR (fun r3 hr3 hR => ?_)
    exact xr_vret C hr dX1_take_63 hR
  · refine xr_aload_n C dX1_take_16 rfl ?_
    refine xr_dup C dX1_take_17 rfl ?_
    refine xr_get C hk1 fl_RX1_137 rfl dX1_take_18 ?_
    refine xr_aload_n C dX1_take_21 rfl ?_
    refine xr_get C (kr_X1_channelAt hk0 hr1) fl_RX1_157 rfl dX1_take_22 ?_
    refine xr_callVi C (st := [.int (r1.1 k1 3), .ref (xg_ad G k1)]) [] cv_RX1_86 (kp_0_1 (kr_X1_channelAt hk0 hr1)) (fun _ zz9 => mcX3_takeFirst l G (kp_0_1 (kr_X1_channelAt hk0 hr1)) zz9) rfl ⟨Nat.le_of_ble_eq_true rfl, Nat.le_of_ble_eq_true rfl⟩ (Nat.le_of_ble_eq_true rfl) ⟨Nat.zero_le _, Nat.zero_le _⟩ rfl dX1_take_25 hR (fun r4 hr4 hR => ?_)
    refine xr_iadd C dX1_take_28 ?_
    refine xr_putL C hk1 fl_RX1_137 pf_2_3 dX1_take_29 hR (fun h5 hR => ?_)
    refine xr_aload_n C dX1_take_32 rfl ?_
    refine xr_aload_n C dX1_take_33 rfl ?_
    refine xr_get C (kr_X1_channelAt hk0 hr1) fl_RX1_166 rfl dX1_take_34 ?_
    refine xr_callVv C (st := []) [.ref (xg_ad G (r1.2 + 3))] cv_RX1_163 hk0 (fun _ zz9 => mcX1_wakeFirst l G hk0 (kp_0_2 (kr_X1_channelAt hk0 hr1)) zz9) rfl ⟨Nat.le_of_ble_eq_true rfl, Nat.le_of_ble_eq_true rfl⟩ (Nat.le_of_ble_eq_true rfl) ⟨Nat.zero_le _, Nat.zero_le _⟩ rfl dX1_take_37 hR (fun r6 hr6 hR => ?_)
    refine xr_aload_n C dX1_take_40 rfl ?_
    refine xr_callVv C (st := []) [] cv_RX1_144 hk1 (fun _ zz9 => mcX2_moveOn l G hk1 zz9) rfl ⟨Nat.le_of_ble_eq_true rfl, Nat.le_of_ble_eq_true rfl⟩ (Nat.le_of_ble_eq_true rfl) ⟨Nat.zero_le _, Nat.zero_le _⟩ rfl dX1_take_41 hR (fun r7 hr7 hR => ?_)
    refine xr_goto (tgt := 63) C dX1_take_44 (by decide) ?_
    exact xr_vret C hr dX1_take_63 hR
end
section
def mX1_waitFor (k0 : Nat) (k1 : Nat) (a2 : Int32) (h : xw_M) : Option (xw_M × Unit) := (mX1_fiberAt k0 a2 h).bind fun r1 => (if (r1.1 r1.2 1) = (5 : Int32) then (mX2_moveOn k1 r1.1).bind fun r3 => some (r3.1, ()) else xo_let (xw_st r1.1 k1 1 (4 : Int32)) fun h2 => some (h2, ()))
set_option maxHeartbeats 4000000 in
set_option maxRecDepth 100000 in
theorem mcX1_waitFor (l : Launch) (G : xw_G) {k0 : Nat} {k1 : Nat} {a2 : Int32} (hk0 : xw_kd k0 = 1) (hk1 : xw_kd k1 = 2) {h : xw_M} {q : xw_M × Unit} (hR : mX1_waitFor k0 k1 a2 h = some q) : xc_M l G yX1_waitFor cX1_waitFor 3 none 1 22 [.ref (xg_ad G k0), .ref (xg_ad G k1), .int a2] h q.1 none := by
  refine xc_of (by decide +kernel) rfl (Nat.le_of_ble_eq_true rfl) ?_
  intro p e s m args below meth c C hr
  have C : xj_C p s m args meth c G RX1 cX1_waitFor 3 := C
  show xj_X p l e { frames := 1, cells := 0, slots := 0, locals := 22 } s m args below meth c G 3 0 0 (MQ below (xw_Q G none q.1) args s 0 0 (xg_A G)) h [some (.ref (xg_ad G k0)), some (.ref (xg_ad G k1)), some (.int a2)] 0 []
  unfold mX1_waitFor at hR
  refine xr_aload_n C dX1_waitFor_0 rfl ?_
  refine xr_iload_n C dX1_waitFor_1 rfl ?_
  refine xr_callVr C (st := []) [.int a2] cv_RX1_66 hk0 (fun _ zz9 => mcX1_fiberAt l G hk0 zz9) rfl ⟨Nat.le_of_ble_eq_true rfl, Nat.le_of_ble_eq_true rfl⟩ (Nat.le_of_ble_eq_true rfl) ⟨Nat.zero_le _, Nat.zero_le _⟩ rfl dX1_waitFor_2 hR (fun r1 hr1 hR => ?_)
  refine xr_get C (kr_X1_fiberAt hk0 hr1) fl_RX1_73 rfl dX1_waitFor_5 ?_
  refine xr_iconst (v := 5) C dX1_waitFor_8 (by decide) ?_
  refine xr_icmp_ne (tgt := 19) C dX1_waitFor_9 (by decide) hR (fun hR => ?_) (fun hR => ?_)
  · refine xr_aload_n C dX1_waitFor_19 rfl ?_
    refine xr_iconst (v := 4) C dX1_waitFor_20 (by decide) ?_
    refine xr_putL C hk1 fl_RX1_73 pf_2_1 dX1_waitFor_21 hR (fun h2 hR => ?_)
    exact xr_vret C hr dX1_waitFor_24 hR
  · refine xr_aload_n C dX1_waitFor_12 rfl ?_
    refine xr_callVv C (st := []) [] cv_RX1_144 hk1 (fun _ zz9 => mcX2_moveOn l G hk1 zz9) rfl ⟨Nat.le_of_ble_eq_true rfl, Nat.le_of_ble_eq_true rfl⟩ (Nat.le_of_ble_eq_true rfl) ⟨Nat.zero_le _, Nat.zero_le _⟩ rfl dX1_waitFor_13 hR (fun r3 hr3 hR => ?_)
    refine xr_goto (tgt := 24) C dX1_waitFor_16 (by decide) ?_
    exact xr_vret C hr dX1_waitFor_24 hR
end
section
def mX1_doStep_b151  (k1 : Nat) (h : xw_M)  : Option (xw_M × Int32) := (if (h k1 1) = 0 then some (h, (1 : Int32)) else some (h, (0 : Int32)))
def mX1_doStep_b145  (k1 : Nat) (h : xw_M)  : Option (xw_M × Int32) := (mX2_moveOn k1 h).bind fun r10 => some (r10.1, (0 : Int32))
def mX1_doStep (k0 : Nat) (k1 : Nat) (h : xw_M) : Option (xw_M × Int32) := (mX2_stepAt k1 (h k1 2) h).bind fun r1 => (if (r1.1 r1.2 0) = (0 : Int32) then (mX1_send k0 k1 (r1.1 r1.2 1) (r1.1 r1.2 2) r1.1).bind fun r2 => mX1_doStep_b151  (k1) r2.1  else (if (r1.1 r1.2 0) = (1 : Int32) then (mX1_take k0 k1 (r1.1 r1.2 1) r1.1).bind fun r4 => mX1_doStep_b151  (k1) r4.1  else (if (r1.1 r1.2 0) = (2 : Int32) then xo_let (xw_st r1.1 k1 6 ((r1.1 k0 7) + (r1.1 r1.2 1))) fun h6 => xo_let (xw_st h6 k1 1 (3 : Int32)) fun h7 => (mX2_moveOn k1 h7).bind fun r8 => mX1_doStep_b151  (k1) r8.1  else (if (r1.1 r1.2 0) = (3 : Int32) then mX1_doStep_b145  (k1) r1.1  else (if (r1.1 r1.2 0) = (4 : Int32) then (mX1_waitFor k0 k1 (r1.1 r1.2 1) r1.1).bind fun r12 => mX1_doStep_b151  (k1) r12.1  else (if (r1.1 r1.2 0) = (5 : Int32) then (mX2_goBack k1 r1.2 r1.1).bind fun r14 => mX1_doStep_b151  (k1) r14.1  else (if (r1.1 r1.2 0) = (6 : Int32) then (mX1_send k0 k1 (r1.1 r1.2 1) (r1.1 k1 3) r1.1).bind fun r16 => mX1_doStep_b151  (k1) r16.1  else mX1_doStep_b145  (k1) r1.1 )))))))
set_option maxHeartbeats 4000000 in
set_option maxRecDepth 100000 in
theorem mbX1_doStep_b151 {p : Program} {l : Launch} {e : Env} {s : State} {m : MethodId} {args : Array Value} {below : List Frame} {meth : Method} {c : Code} {G : xw_G} (C : xj_C p s m args meth c G RX1 cX1_doStep 3) (hr : meth.sig.returnType = (some .boolean)) {q : xw_M × Int32} {k1 : Nat}  (hk1 : xw_kd k1 = 2) {h : xw_M}   (hR : mX1_doStep_b151  k1 h  = some q) : xj_X p l e { frames := 3, cells := 0, slots := 0, locals := 68 } s m args below meth c G 3 0 0 (MQ below (xw_Q G (some (.int q.2)) q.1) args s 0 0 (xg_A G)) h [none, some (.ref (xg_ad G k1)), none] 151 [] := by
  unfold mX1_doStep_b151 at hR
  refine xr_aload_n C dX1_doStep_151 rfl ?_
  refine xr_get C hk1 fl_RX1_73 rfl dX1_doStep_152 ?_
  refine xr_if_ne (tgt := 162) C dX1_doStep_155 (by decide) hR (fun hR => ?_) (fun hR => ?_)
  · refine xr_iconst (v := 0) C dX1_doStep_162 (by decide) ?_
    exact xr_zret C hr (Or.inl rfl) dX1_doStep_163 hR
  · refine xr_iconst (v := 1) C dX1_doStep_158 (by decide) ?_
    refine xr_goto (tgt := 163) C dX1_doStep_159 (by decide) ?_
    exact xr_zret C hr (Or.inr rfl) dX1_doStep_163 hR
set_option maxHeartbeats 4000000 in
set_option maxRecDepth 100000 in
theorem mbX1_doStep_b145 {p : Program} {l : Launch} {e : Env} {s : State} {m : MethodId} {args : Array Value} {below : List Frame} {meth : Method} {c : Code} {G : xw_G} (C : xj_C p s m args meth c G RX1 cX1_doStep 3) (hr : meth.sig.returnType = (some .boolean)) {q : xw_M × Int32} {k1 : Nat}  (hk1 : xw_kd k1 = 2) {h : xw_M}   (hR : mX1_doStep_b145  k1 h  = some q) : xj_X p l e { frames := 3, cells := 0, slots := 0, locals := 68 } s m args below meth c G 3 0 0 (MQ below (xw_Q G (some (.int q.2)) q.1) args s 0 0 (xg_A G)) h [none, some (.ref (xg_ad G k1)), none] 145 [] := by
  unfold mX1_doStep_b145 at hR
  refine xr_aload_n C dX1_doStep_145 rfl ?_
  refine xr_callVv C (st := []) [] cv_RX1_144 hk1 (fun _ zz9 => mcX2_moveOn l G hk1 zz9) rfl ⟨Nat.le_of_ble_eq_true rfl, Nat.le_of_ble_eq_true rfl⟩ (Nat.le_of_ble_eq_true rfl) ⟨Nat.zero_le _, Nat.zero_le _⟩ rfl dX1_doStep_146 hR (fun r10 hr10 hR => ?_)
  refine xr_iconst (v := 0) C dX1_doStep_149 (by decide) ?_
  exact xr_zret C hr (Or.inl rfl) dX1_doStep_150 hR
set_option maxHeartbeats 4000000 in
set_option maxRecDepth 100000 in
theorem mcX1_doStep (l : Launch) (G : xw_G) {k0 : Nat} {k1 : Nat} (hk0 : xw_kd k0 = 1) (hk1 : xw_kd k1 = 2) {h : xw_M} {q : xw_M × Int32} (hR : mX1_doStep k0 k1 h = some q) : xc_M l G yX1_doStep cX1_doStep 3 (some .boolean) 3 68 [.ref (xg_ad G k0), .ref (xg_ad G k1)] h q.1 (some (.int q.2)) := by
  refine xc_of (by decide +kernel) rfl (Nat.le_of_ble_eq_true rfl) ?_
  intro p e s m args below meth c C hr
  have C : xj_C p s m args meth c G RX1 cX1_doStep 3 := C
  show xj_X p l e { frames := 3, cells := 0, slots := 0, locals := 68 } s m args below meth c G 3 0 0 (MQ below (xw_Q G (some (.int q.2)) q.1) args s 0 0 (xg_A G)) h [some (.ref (xg_ad G k0)), some (.ref (xg_ad G k1)), none] 0 []
  unfold mX1_doStep at hR
  refine xr_aload_n C dX1_doStep_0 rfl ?_
  refine xr_aload_n C dX1_doStep_1 rfl ?_
  refine xr_get C hk1 fl_RX1_115 rfl dX1_doStep_2 ?_
  refine xr_callVr C (st := []) [.int (h k1 2)] cv_RX1_118 hk1 (fun _ zz9 => mcX2_stepAt l G hk1 zz9) rfl ⟨Nat.le_of_ble_eq_true rfl, Nat.le_of_ble_eq_true rfl⟩ (Nat.le_of_ble_eq_true rfl) ⟨Nat.zero_le _, Nat.zero_le _⟩ rfl dX1_doStep_5 hR (fun r1 hr1 hR => ?_)
  refine xr_astore_n C dX1_doStep_8 rfl (by decide) ?_
  refine xr_aload_n C dX1_doStep_9 rfl ?_
  refine xr_get C (kr_X2_stepAt hk1 hr1) fl_RX1_122 rfl dX1_doStep_10 ?_
  refine xo_if hR (fun hx3 hR => ?_) (fun hx3 hR => ?_)
  · refine xr_tabIn (off := 43) (tgt := 56) C dX1_doStep_13 (by rw [hx3]; decide) (by rw [hx3]; decide) (by rw [hx3]; decide) (by decide) ?_
    refine xr_aload_n C dX1_doStep_56 rfl ?_
    refine xr_aload_n C dX1_doStep_57 rfl ?_
    refine xr_aload_n C dX1_doStep_58 rfl ?_
    refine xr_get C (kr_X2_stepAt hk1 hr1) fl_RX1_127 rfl dX1_doStep_59 ?_
    refine xr_aload_n C dX1_doStep_62 rfl ?_
    refine xr_get C (kr_X2_stepAt hk1 hr1) fl_RX1_130 rfl dX1_doStep_63 ?_
    refine xr_callVv C (st := []) [.ref (xg_ad G k1), .int (r1.1 r1.2 1), .int (r1.1 r1.2 2)] cv_RX1_133 hk0 (fun _ zz9 => mcX1_send l G hk0 hk1 zz9) rfl ⟨Nat.le_of_ble_eq_true rfl, Nat.le_of_ble_eq_true rfl⟩ (Nat.le_of_ble_eq_true rfl) ⟨Nat.zero_le _, Nat.zero_le _⟩ rfl dX1_doStep_66 hR (fun r2 hr2 hR => ?_)
    refine xr_goto (tgt := 151) C dX1_doStep_69 (by decide) ?_
    exact xr_sub (lv9 := [none, some (.ref (xg_ad G k1)), none]) (And.intro rfl trivial) (mbX1_doStep_b151 C hr  hk1  hR)
  · have hx3n := hx3
    refine xo_if hR (fun hx5 hR => ?_) (fun hx5 hR => ?_)
    · refine xr_tabIn (off := 75) (tgt := 88) C dX1_doStep_13 (by rw [hx5]; decide) (by rw [hx5]; decide) (by rw [hx5]; decide) (by decide) ?_
      refine xr_aload_n C dX1_doStep_88 rfl ?_
      refine xr_aload_n C dX1_doStep_89 rfl ?_
      refine xr_aload_n C dX1_doStep_90 rfl ?_
      refine xr_get C (kr_X2_stepAt hk1 hr1) fl_RX1_127 rfl dX1_doStep_91 ?_
      refine xr_callVv C (st := []) [.ref (xg_ad G k1), .int (r1.1 r1.2 1)] cv_RX1_140 hk0 (fun _ zz9 => mcX1_take l G hk0 hk1 zz9) rfl ⟨Nat.le_of_ble_eq_true rfl, Nat.le_of_ble_eq_true rfl⟩ (Nat.le_of_ble_eq_true rfl) ⟨Nat.zero_le _, Nat.zero_le _⟩ rfl dX1_doStep_94 hR (fun r4 hr4 hR => ?_)
      refine xr_goto (tgt := 151) C dX1_doStep_97 (by decide) ?_
      exact xr_sub (lv9 := [none, some (.ref (xg_ad G k1)), none]) (And.intro rfl trivial) (mbX1_doStep_b151 C hr  hk1  hR)
    · have hx5n := hx5
      refine xo_if hR (fun hx9 hR => ?_) (fun hx9 hR => ?_)
      · refine xr_tabIn (off := 87) (tgt := 100) C dX1_doStep_13 (by rw [hx9]; decide) (by rw [hx9]; decide) (by rw [hx9]; decide) (by decide) ?_
        refine xr_aload_n C dX1_doStep_100 rfl ?_
        refine xr_aload_n C dX1_doStep_101 rfl ?_
        refine xr_get C hk0 fl_RX1_49 rfl dX1_doStep_102 ?_
        refine xr_aload_n C dX1_doStep_105 rfl ?_
        refine xr_get C (kr_X2_stepAt hk1 hr1) fl_RX1_127 rfl dX1_doStep_106 ?_
        refine xr_iadd C dX1_doStep_109 ?_
        refine xr_putL C hk1 fl_RX1_109 pf_2_6 dX1_doStep_110 hR (fun h6 hR => ?_)
        refine xr_aload_n C dX1_doStep_113 rfl ?_
        refine xr_iconst (v := 3) C dX1_doStep_114 (by decide) ?_
        refine xr_putL C hk1 fl_RX1_73 pf_2_1 dX1_doStep_115 hR (fun h7 hR => ?_)
        refine xr_aload_n C dX1_doStep_118 rfl ?_
        refine xr_callVv C (st := []) [] cv_RX1_144 hk1 (fun _ zz9 => mcX2_moveOn l G hk1 zz9) rfl ⟨Nat.le_of_ble_eq_true rfl, Nat.le_of_ble_eq_true rfl⟩ (Nat.le_of_ble_eq_true rfl) ⟨Nat.zero_le _, Nat.zero_le _⟩ rfl dX1_doStep_119 hR (fun r8 hr8 hR => ?_)
        refine xr_goto (tgt := 151) C dX1_doStep_122 (by decide) ?_
        exact xr_sub (lv9 := [none, some (.ref (xg_ad G k1)), none]) (And.intro rfl trivial) (mbX1_doStep_b151 C hr  hk1  hR)
      · have hx9n := hx9
        refine xo_if hR (fun hx11 hR => ?_) (fun hx11 hR => ?_)
        · refine xr_tabIn (off := 132) (tgt := 145) C dX1_doStep_13 (by rw [hx11]; decide) (by rw [hx11]; decide) (by rw [hx11]; decide) (by decide) ?_
          exact xr_sub (lv9 := [none, some (.ref (xg_ad G k1)), none]) (And.intro rfl trivial) (mbX1_doStep_b145 C hr  hk1  hR)
        · have hx11n := hx11
          refine xo_if hR (fun hx13 hR => ?_) (fun hx13 hR => ?_)
          · refine xr_tabIn (off := 112) (tgt := 125) C dX1_doStep_13 (by rw [hx13]; decide) (by rw [hx13]; decide) (by rw [hx13]; decide) (by decide) ?_
            refine xr_aload_n C dX1_doStep_125 rfl ?_
            refine xr_aload_n C dX1_doStep_126 rfl ?_
            refine xr_aload_n C dX1_doStep_127 rfl ?_
            refine xr_get C (kr_X2_stepAt hk1 hr1) fl_RX1_127 rfl dX1_doStep_128 ?_
            refine xr_callVv C (st := []) [.ref (xg_ad G k1), .int (r1.1 r1.2 1)] cv_RX1_147 hk0 (fun _ zz9 => mcX1_waitFor l G hk0 hk1 zz9) rfl ⟨Nat.le_of_ble_eq_true rfl, Nat.le_of_ble_eq_true rfl⟩ (Nat.le_of_ble_eq_true rfl) ⟨Nat.zero_le _, Nat.zero_le _⟩ rfl dX1_doStep_131 hR (fun r12 hr12 hR => ?_)
            refine xr_goto (tgt := 151) C dX1_doStep_134 (by decide) ?_
            exact xr_sub (lv9 := [none, some (.ref (xg_ad G k1)), none]) (And.intro rfl trivial) (mbX1_doStep_b151 C hr  hk1  hR)
          · have hx13n := hx13
            refine xo_if hR (fun hx15 hR => ?_) (fun hx15 hR => ?_)
            · refine xr_tabIn (off := 124) (tgt := 137) C dX1_doStep_13 (by rw [hx15]; decide) (by rw [hx15]; decide) (by rw [hx15]; decide) (by decide) ?_
              refine xr_aload_n C dX1_doStep_137 rfl ?_
              refine xr_aload_n C dX1_doStep_138 rfl ?_
              refine xr_callVv C (st := []) [.ref (xg_ad G r1.2)] cv_RX1_150 hk1 (fun _ zz9 => mcX2_goBack l G hk1 (kr_X2_stepAt hk1 hr1) zz9) rfl ⟨Nat.le_of_ble_eq_true rfl, Nat.le_of_ble_eq_true rfl⟩ (Nat.le_of_ble_eq_true rfl) ⟨Nat.zero_le _, Nat.zero_le _⟩ rfl dX1_doStep_139 hR (fun r14 hr14 hR => ?_)
              refine xr_goto (tgt := 151) C dX1_doStep_142 (by decide) ?_
              exact xr_sub (lv9 := [none, some (.ref (xg_ad G k1)), none]) (And.intro rfl trivial) (mbX1_doStep_b151 C hr  hk1  hR)
            · have hx15n := hx15
              refine xo_if hR (fun hx17 hR => ?_) (fun hx17 hR => ?_)
              · refine xr_tabIn (off := 59) (tgt := 72) C dX1_doStep_13 (by rw [hx17]; decide) (by rw [hx17]; decide) (by rw [hx17]; decide) (by decide) ?_
                refine xr_aload_n C dX1_doStep_72 rfl ?_
                refine xr_aload_n C dX1_doStep_73 rfl ?_
                refine xr_aload_n C dX1_doStep_74 rfl ?_
                refine xr_get C (kr_X2_stepAt hk1 hr1) fl_RX1_127 rfl dX1_doStep_75 ?_
                refine xr_aload_n C dX1_doStep_78 rfl ?_
                refine xr_get C hk1 fl_RX1_137 rfl dX1_doStep_79 ?_
                refine xr_callVv C (st := []) [.ref (xg_ad G k1), .int (r1.1 r1.2 1), .int (r1.1 k1 3)] cv_RX1_133 hk0 (fun _ zz9 => mcX1_send l G hk0 hk1 zz9) rfl ⟨Nat.le_of_ble_eq_true rfl, Nat.le_of_ble_eq_true rfl⟩ (Nat.le_of_ble_eq_true rfl) ⟨Nat.zero_le _, Nat.zero_le _⟩ rfl dX1_doStep_82 hR (fun r16 hr16 hR => ?_)
                refine xr_goto (tgt := 151) C dX1_doStep_85 (by decide) ?_
                exact xr_sub (lv9 := [none, some (.ref (xg_ad G k1)), none]) (And.intro rfl trivial) (mbX1_doStep_b151 C hr  hk1  hR)
              · have hx17n := hx17
                refine xr_tabOut (tgt := 145) C dX1_doStep_13 (xo_tab7 hx3n hx5n hx9n hx11n hx13n hx15n hx17n) (by decide) ?_
                exact xr_sub (lv9 := [none, some (.ref (xg_ad G k1)), none]) (And.intro rfl trivial) (mbX1_doStep_b145 C hr  hk1  hR)
end
section
def mX1_endTurn_b79 (K34 : xw_M → Int32 → Option (xw_M × Unit)) (k0 : Nat) (k1 : Nat) (a2 : Int32) (h : xw_M)  : Option (xw_M × Unit) := K34 h ((a2 + 1))
def mX1_endTurn_b34  (k0 : Nat) (k1 : Nat) : Nat → xw_M → Int32 → Option (xw_M × Unit)
  | 0, _, _ => none
  | n + 1, h, a2 => (if (h k0 6) ≤ a2 then some (h, ()) else (mX1_fiberAt k0 a2 h).bind fun r3 => (if (r3.1 r3.2 1) = (4 : Int32) then (mX2_stepAt r3.2 (r3.1 r3.2 2) r3.1).bind fun r4 => (if (r4.1 r4.2 1) = (r4.1 k1 0) then (mX1_makeReady k0 r3.2 r4.1).bind fun r5 => mX1_endTurn_b79 (mX1_endTurn_b34  k0 k1 n) (k0) (k1) (a2) r5.1  else mX1_endTurn_b79 (mX1_endTurn_b34  k0 k1 n) (k0) (k1) (a2) r4.1 ) else mX1_endTurn_b79 (mX1_endTurn_b34  k0 k1 n) (k0) (k1) (a2) r3.1 ))
def mX1_endTurn (k0 : Nat) (k1 : Nat) (h : xw_M) : Option (xw_M × Unit) := (if (h k1 1) = 0 then (mX2_hasStepsLeft k1 h).bind fun r1 => (if r1.2 = 0 then xo_let (xw_st r1.1 k1 1 (5 : Int32)) fun h2 => mX1_endTurn_b34  (k0) (k1) xo_n h2 ((0 : Int32)) else (mX3_addLast (k0 + 3) (r1.1 k1 0) r1.1).bind fun r6 => some (r6.1, ())) else some (h, ()))
set_option maxHeartbeats 4000000 in
set_option maxRecDepth 100000 in
theorem mbX1_endTurn_b79 {p : Program} {l : Launch} {e : Env} {s : State} {m : MethodId} {args : Array Value} {below : List Frame} {meth : Method} {c : Code} {G : xw_G} (C : xj_C p s m args meth c G RX1 cX1_endTurn 4) (hr : meth.sig.returnType = none) {q : xw_M × Unit} {K34 : xw_M → Int32 → Option (xw_M × Unit)} {k0 : Nat} {k1 : Nat} {a2 : Int32} (hK34 : ∀ (h : xw_M) (a2 : Int32), K34 h a2 = some q → xj_X p l e { frames := 2, cells := 0, slots := 0, locals := 42 } s m args below meth c G 4 0 0 (MQ below (xw_Q G none q.1) args s 0 0 (xg_A G)) h [some (.ref (xg_ad G k0)), some (.ref (xg_ad G k1)), some (.int a2), none] 34 []) (hk0 : xw_kd k0 = 1) (hk1 : xw_kd k1 = 2) {h : xw_M}   (hR : mX1_endTurn_b79 K34 k0 k1 a2 h  = some q) : xj_X p l e { frames := 2, cells := 0, slots := 0, locals := 42 } s m args below meth c G 4 0 0 (MQ below (xw_Q G none q.1) args s 0 0 (xg_A G)) h [some (.ref (xg_ad G k0)), some (.ref (xg_ad G k1)), some (.int a2), none] 79 [] := by
  unfold mX1_endTurn_b79 at hR
  refine xr_iinc (v := 1) C dX1_endTurn_79 rfl (by decide) rfl (by decide) ?_
  refine xr_goto (tgt := 34) C dX1_endTurn_82 (by decide) ?_
  exact xr_sub (lv9 := [some (.ref (xg_ad G k0)), some (.ref (xg_ad G k1)), some (.int (a2 + 1)), none]) (And.intro rfl (And.intro rfl (And.intro rfl trivial))) (hK34 _ _  hR)
set_option maxHeartbeats 4000000 in
set_option maxRecDepth 100000 in
theorem mbX1_endTurn_b34 {p : Program} {l : Launch} {e : Env} {s : State} {m : MethodId} {args : Array Value} {below : List Frame} {meth : Method} {c : Code} {G : xw_G} (C : xj_C p s m args meth c G RX1 cX1_endTurn 4) (hr : meth.sig.returnType = none) {q : xw_M × Unit} {k0 : Nat} {k1 : Nat}  (hk0 : xw_kd k0 = 1) (hk1 : xw_kd k1 = 2) : ∀ (n : Nat) (h : xw_M) (a2 : Int32), mX1_endTurn_b34  k0 k1 n h a2 = some q → xj_X p l e { frames := 2, cells := 0, slots := 0, locals := 42 } s m args below meth c G 4 0 0 (MQ below (xw_Q G none q.1) args s 0 0 (xg_A G)) h [some (.ref (xg_ad G k0)), some (.ref (xg_ad G k1)), some (.int a2), none] 34 [] := by
  intro n
  induction n with
  | zero => intro h a2 hR; exact absurd (show (none : Option (xw_M × Unit)) = some q from hR) (fun z => by cases z)
  | succ n ih =>
    intro h a2 hR
    rw [mX1_endTurn_b34.eq_2] at hR
    refine xr_iload_n C dX1_endTurn_34 rfl ?_
    refine xr_aload_n C dX1_endTurn_35 rfl ?_
    refine xr_get C hk0 fl_RX1_46 rfl dX1_endTurn_36 ?_
    refine xr_icmp_ge (tgt := 85) C dX1_endTurn_39 (by decide) hR (fun hR => ?_) (fun hR => ?_)
    · exact xr_vret C hr dX1_endTurn_85 hR
    · refine xr_aload_n C dX1_endTurn_42 rfl ?_
      refine xr_iload_n C dX1_endTurn_43 rfl ?_
      refine xr_callVr C (st := []) [.int a2] cv_RX1_66 hk0 (fun _ zz9 => mcX1_fiberAt l G hk0 zz9) rfl ⟨Nat.le_of_ble_eq_true rfl, Nat.le_of_ble_eq_true rfl⟩ (Nat.le_of_ble_eq_true rfl) ⟨Nat.zero_le _, Nat.zero_le _⟩ rfl dX1_endTurn_44 hR (fun r3 hr3 hR => ?_)
      refine xr_astore_n C dX1_endTurn_47 rfl (by decide) ?_
      refine xr_aload_n C dX1_endTurn_48 rfl ?_
      refine xr_get C (kr_X1_fiberAt hk0 hr3) fl_RX1_73 rfl dX1_endTurn_49 ?_
      refine xr_iconst (v := 4) C dX1_endTurn_52 (by decide) ?_
      refine xr_icmp_ne (tgt := 79) C dX1_endTurn_53 (by decide) hR (fun hR => ?_) (fun hR => ?_)
      · exact xr_sub (lv9 := [some (.ref (xg_ad G k0)), some (.ref (xg_ad G k1)), some (.int a2), none]) (And.intro rfl (And.intro rfl (And.intro rfl trivial))) (mbX1_endTurn_b79 C hr ih hk0 hk1  hR)
      · refine xr_aload_n C dX1_endTurn_56 rfl ?_
        refine xr_aload_n C dX1_endTurn_57 rfl ?_
        refine xr_get C (kr_X1_fiberAt hk0 hr3) fl_RX1_115 rfl dX1_endTurn_58 ?_
        refine xr_callVr C (st := []) [.int (r3.1 r3.2 2)] cv_RX1_118 (kr_X1_fiberAt hk0 hr3) (fun _ zz9 => mcX2_stepAt l G (kr_X1_fiberAt hk0 hr3) zz9) rfl ⟨Nat.le_of_ble_eq_true rfl, Nat.le_of_ble_eq_true rfl⟩ (Nat.le_of_ble_eq_true rfl) ⟨Nat.zero_le _, Nat.zero_le _⟩ rfl dX1_endTurn_61 hR (fun r4 hr4 hR => ?_)
        refine xr_get C (kr_X2_stepAt (kr_X1_fiberAt hk0 hr3) hr4) fl_RX1_127 rfl dX1_endTurn_64 ?_
        refine xr_aload_n C dX1_endTurn_67 rfl ?_
        refine xr_get C hk1 fl_RX1_103 rfl dX1_endTurn_68 ?_
        refine xr_icmp_ne (tgt := 79) C dX1_endTurn_71 (by decide) hR (fun hR => ?_) (fun hR => ?_)
        · exact xr_sub (lv9 := [some (.ref (xg_ad G k0)), some (.ref (xg_ad G k1)), some (.int a2), none]) (And.intro rfl (And.intro rfl (And.intro rfl trivial))) (mbX1_endTurn_b79 C hr ih hk0 hk1  hR)
        · refine xr_aload_n C dX1_endTurn_74 rfl ?_
          refine xr_aload_n C dX1_endTurn_75 rfl ?_
          refine xr_callVv C (st := []) [.ref (xg_ad G r3.2)] cv_RX1_112 hk0 (fun _ zz9 => mcX1_makeReady l G hk0 (kr_X1_fiberAt hk0 hr3) zz9) rfl ⟨Nat.le_of_ble_eq_true rfl, Nat.le_of_ble_eq_true rfl⟩ (Nat.le_of_ble_eq_true rfl) ⟨Nat.zero_le _, Nat.zero_le _⟩ rfl dX1_endTurn_76 hR (fun r5 hr5 hR => ?_)
          exact xr_sub (lv9 := [some (.ref (xg_ad G k0)), some (.ref (xg_ad G k1)), some (.int a2), none]) (And.intro rfl (And.intro rfl (And.intro rfl trivial))) (mbX1_endTurn_b79 C hr ih hk0 hk1  hR)
set_option maxHeartbeats 4000000 in
set_option maxRecDepth 100000 in
theorem mcX1_endTurn (l : Launch) (G : xw_G) {k0 : Nat} {k1 : Nat} (hk0 : xw_kd k0 = 1) (hk1 : xw_kd k1 = 2) {h : xw_M} {q : xw_M × Unit} (hR : mX1_endTurn k0 k1 h = some q) : xc_M l G yX1_endTurn cX1_endTurn 4 none 2 42 [.ref (xg_ad G k0), .ref (xg_ad G k1)] h q.1 none := by
  refine xc_of (by decide +kernel) rfl (Nat.le_of_ble_eq_true rfl) ?_
  intro p e s m args below meth c C hr
  have C : xj_C p s m args meth c G RX1 cX1_endTurn 4 := C
  show xj_X p l e { frames := 2, cells := 0, slots := 0, locals := 42 } s m args below meth c G 4 0 0 (MQ below (xw_Q G none q.1) args s 0 0 (xg_A G)) h [some (.ref (xg_ad G k0)), some (.ref (xg_ad G k1)), none, none] 0 []
  unfold mX1_endTurn at hR
  refine xr_aload_n C dX1_endTurn_0 rfl ?_
  refine xr_get C hk1 fl_RX1_73 rfl dX1_endTurn_1 ?_
  refine xr_if_eq (tgt := 8) C dX1_endTurn_4 (by decide) hR (fun hR => ?_) (fun hR => ?_)
  · refine xr_aload_n C dX1_endTurn_8 rfl ?_
    refine xr_callVi C (st := []) [] cv_RX1_92 hk1 (fun _ zz9 => mcX2_hasStepsLeft l G hk1 zz9) rfl ⟨Nat.le_of_ble_eq_true rfl, Nat.le_of_ble_eq_true rfl⟩ (Nat.le_of_ble_eq_true rfl) ⟨Nat.zero_le _, Nat.zero_le _⟩ rfl dX1_endTurn_9 hR (fun r1 hr1 hR => ?_)
    refine xr_if_eq (tgt := 27) C dX1_endTurn_12 (by decide) hR (fun hR => ?_) (fun hR => ?_)
    · refine xr_aload_n C dX1_endTurn_27 rfl ?_
      refine xr_iconst (v := 5) C dX1_endTurn_28 (by decide) ?_
      refine xr_putL C hk1 fl_RX1_73 pf_2_1 dX1_endTurn_29 hR (fun h2 hR => ?_)
      refine xr_iconst (v := 0) C dX1_endTurn_32 (by decide) ?_
      refine xr_istore_n C dX1_endTurn_33 rfl (by decide) ?_
      exact xr_sub (lv9 := [some (.ref (xg_ad G k0)), some (.ref (xg_ad G k1)), some (.int (0 : Int32)), none]) (And.intro rfl (And.intro rfl (And.intro rfl trivial))) (mbX1_endTurn_b34 C hr  hk0 hk1 _ _ _  hR)
    · refine xr_aload_n C dX1_endTurn_15 rfl ?_
      refine xr_get C hk0 fl_RX1_38 rfl dX1_endTurn_16 ?_
      refine xr_aload_n C dX1_endTurn_19 rfl ?_
      refine xr_get C hk1 fl_RX1_103 rfl dX1_endTurn_20 ?_
      refine xr_callVv C (st := []) [.int (r1.1 k1 0)] cv_RX1_106 (kp_1_4 hk0) (fun _ zz9 => mcX3_addLast l G (kp_1_4 hk0) zz9) rfl ⟨Nat.le_of_ble_eq_true rfl, Nat.le_of_ble_eq_true rfl⟩ (Nat.le_of_ble_eq_true rfl) ⟨Nat.zero_le _, Nat.zero_le _⟩ rfl dX1_endTurn_23 hR (fun r6 hr6 hR => ?_)
      exact xr_vret C hr dX1_endTurn_26 hR
  · exact xr_vret C hr dX1_endTurn_7 hR
end
section
def mX1_letTurnGoBy_b86  (k0 : Nat) (h : xw_M)  : Option (xw_M × Unit) := xo_let (xw_st h k0 7 ((h k0 7) + (1 : Int32))) fun h6 => some (h6, ())
def mX1_letTurnGoBy_b81  (k0 : Nat) (k1 : Nat) (h : xw_M)  : Option (xw_M × Unit) := (mX1_endTurn k0 k1 h).bind fun r5 => mX1_letTurnGoBy_b86  (k0) r5.1 
def mX1_letTurnGoBy_b53  (k0 : Nat) (k1 : Nat) : Nat → xw_M → Int32 → Int32 → Option (xw_M × Unit)
  | 0, _, _, _ => none
  | n + 1, h, a2, a3 => (if (4 : Int32) ≤ a3 then mX1_letTurnGoBy_b81  (k0) (k1) h  else (if a2 = 0 then mX1_letTurnGoBy_b81  (k0) (k1) h  else (mX2_hasStepsLeft k1 h).bind fun r7 => (if r7.2 = 0 then mX1_letTurnGoBy_b81  (k0) (k1) r7.1  else (mX1_doStep k0 k1 r7.1).bind fun r8 => mX1_letTurnGoBy_b53  k0 k1 n r8.1 (r8.2) ((a3 + 1)))))
def mX1_letTurnGoBy (k0 : Nat) (h : xw_M) : Option (xw_M × Unit) := (mX1_wakeSleepers k0 h).bind fun r1 => (if 0 < (r1.1 (k0 + 3) 1) then (mX3_takeFirst (k0 + 3) r1.1).bind fun r2 => (mX1_fiberAt k0 r2.2 r2.1).bind fun r3 => xo_let (xw_st r3.1 r3.2 5 ((r3.1 r3.2 5) + (1 : Int32))) fun h4 => mX1_letTurnGoBy_b53  (k0) (r3.2) xo_n h4 ((1 : Int32)) ((0 : Int32)) else xo_let (xw_st r1.1 k0 8 ((r1.1 k0 8) + (1 : Int32))) fun h9 => mX1_letTurnGoBy_b86  (k0) h9 )
set_option maxHeartbeats 4000000 in
set_option maxRecDepth 100000 in
theorem mbX1_letTurnGoBy_b86 {p : Program} {l : Launch} {e : Env} {s : State} {m : MethodId} {args : Array Value} {below : List Frame} {meth : Method} {c : Code} {G : xw_G} (C : xj_C p s m args meth c G RX1 cX1_letTurnGoBy 4) (hr : meth.sig.returnType = none) {q : xw_M × Unit} {k0 : Nat}  (hk0 : xw_kd k0 = 1) {h : xw_M}   (hR : mX1_letTurnGoBy_b86  k0 h  = some q) : xj_X p l e { frames := 4, cells := 0, slots := 0, locals := 90 } s m args below meth c G 4 0 0 (MQ below (xw_Q G none q.1) args s 0 0 (xg_A G)) h [some (.ref (xg_ad G k0)), none, none, none] 86 [] := by
  unfold mX1_letTurnGoBy_b86 at hR
  refine xr_aload_n C dX1_letTurnGoBy_86 rfl ?_
  refine xr_dup C dX1_letTurnGoBy_87 rfl ?_
  refine xr_get C hk0 fl_RX1_49 rfl dX1_letTurnGoBy_88 ?_
  refine xr_iconst (v := 1) C dX1_letTurnGoBy_91 (by decide) ?_
  refine xr_iadd C dX1_letTurnGoBy_92 ?_
  refine xr_putL C hk0 fl_RX1_49 pf_1_7 dX1_letTurnGoBy_93 hR (fun h6 hR => ?_)
  exact xr_vret C hr dX1_letTurnGoBy_96 hR
set_option maxHeartbeats 4000000 in
set_option maxRecDepth 100000 in
theorem mbX1_letTurnGoBy_b81 {p : Program} {l : Launch} {e : Env} {s : State} {m : MethodId} {args : Array Value} {below : List Frame} {meth : Method} {c : Code} {G : xw_G} (C : xj_C p s m args meth c G RX1 cX1_letTurnGoBy 4) (hr : meth.sig.returnType = none) {q : xw_M × Unit} {k0 : Nat} {k1 : Nat}  (hk0 : xw_kd k0 = 1) (hk1 : xw_kd k1 = 2) {h : xw_M}   (hR : mX1_letTurnGoBy_b81  k0 k1 h  = some q) : xj_X p l e { frames := 4, cells := 0, slots := 0, locals := 90 } s m args below meth c G 4 0 0 (MQ below (xw_Q G none q.1) args s 0 0 (xg_A G)) h [some (.ref (xg_ad G k0)), some (.ref (xg_ad G k1)), none, none] 81 [] := by
  unfold mX1_letTurnGoBy_b81 at hR
  refine xr_aload_n C dX1_letTurnGoBy_81 rfl ?_
  refine xr_aload_n C dX1_letTurnGoBy_82 rfl ?_
  refine xr_callVv C (st := []) [.ref (xg_ad G k1)] cv_RX1_100 hk0 (fun _ zz9 => mcX1_endTurn l G hk0 hk1 zz9) rfl ⟨Nat.le_of_ble_eq_true rfl, Nat.le_of_ble_eq_true rfl⟩ (Nat.le_of_ble_eq_true rfl) ⟨Nat.zero_le _, Nat.zero_le _⟩ rfl dX1_letTurnGoBy_83 hR (fun r5 hr5 hR => ?_)
  exact xr_sub (lv9 := [some (.ref (xg_ad G k0)), none, none, none]) (And.intro rfl trivial) (mbX1_letTurnGoBy_b86 C hr  hk0  hR)
set_option maxHeartbeats 4000000 in
set_option maxRecDepth 100000 in
theorem mbX1_letTurnGoBy_b53 {p : Program} {l : Launch} {e : Env} {s : State} {m : MethodId} {args : Array Value} {below : List Frame} {meth : Method} {c : Code} {G : xw_G} (C : xj_C p s m args meth c G RX1 cX1_letTurnGoBy 4) (hr : meth.sig.returnType = none) {q : xw_M × Unit} {k0 : Nat} {k1 : Nat}  (hk0 : xw_kd k0 = 1) (hk1 : xw_kd k1 = 2) : ∀ (n : Nat) (h : xw_M) (a2 : Int32) (a3 : Int32), mX1_letTurnGoBy_b53  k0 k1 n h a2 a3 = some q → xj_X p l e { frames := 4, cells := 0, slots := 0, locals := 90 } s m args below meth c G 4 0 0 (MQ below (xw_Q G none q.1) args s 0 0 (xg_A G)) h [some (.ref (xg_ad G k0)), some (.ref (xg_ad G k1)), some (.int a2), some (.int a3)] 53 [] := by
  intro n
  induction n with
  | zero => intro h a2 a3 hR; exact absurd (show (none : Option (xw_M × Unit)) = some q from hR) (fun z => by cases z)
  | succ n ih =>
    intro h a2 a3 hR
    rw [mX1_letTurnGoBy_b53.eq_2] at hR
    refine xr_iload_n C dX1_letTurnGoBy_53 rfl ?_
    refine xr_iconst (v := 4) C dX1_letTurnGoBy_54 (by decide) ?_
    refine xr_icmp_ge (tgt := 81) C dX1_letTurnGoBy_55 (by decide) hR (fun hR => ?_) (fun hR => ?_)
    · exact xr_sub (lv9 := [some (.ref (xg_ad G k0)), some (.ref (xg_ad G k1)), none, none]) (And.intro rfl (And.intro rfl trivial)) (mbX1_letTurnGoBy_b81 C hr  hk0 hk1  hR)
    · refine xr_iload_n C dX1_letTurnGoBy_58 rfl ?_
      refine xr_if_eq (tgt := 81) C dX1_letTurnGoBy_59 (by decide) hR (fun hR => ?_) (fun hR => ?_)
      · exact xr_sub (lv9 := [some (.ref (xg_ad G k0)), some (.ref (xg_ad G k1)), none, none]) (And.intro rfl (And.intro rfl trivial)) (mbX1_letTurnGoBy_b81 C hr  hk0 hk1  hR)
      · refine xr_aload_n C dX1_letTurnGoBy_62 rfl ?_
        refine xr_callVi C (st := []) [] cv_RX1_92 hk1 (fun _ zz9 => mcX2_hasStepsLeft l G hk1 zz9) rfl ⟨Nat.le_of_ble_eq_true rfl, Nat.le_of_ble_eq_true rfl⟩ (Nat.le_of_ble_eq_true rfl) ⟨Nat.zero_le _, Nat.zero_le _⟩ rfl dX1_letTurnGoBy_63 hR (fun r7 hr7 hR => ?_)
        refine xr_if_eq (tgt := 81) C dX1_letTurnGoBy_66 (by decide) hR (fun hR => ?_) (fun hR => ?_)
        · exact xr_sub (lv9 := [some (.ref (xg_ad G k0)), some (.ref (xg_ad G k1)), none, none]) (And.intro rfl (And.intro rfl trivial)) (mbX1_letTurnGoBy_b81 C hr  hk0 hk1  hR)
        · refine xr_aload_n C dX1_letTurnGoBy_69 rfl ?_
          refine xr_aload_n C dX1_letTurnGoBy_70 rfl ?_
          refine xr_callVi C (st := []) [.ref (xg_ad G k1)] cv_RX1_96 hk0 (fun _ zz9 => mcX1_doStep l G hk0 hk1 zz9) rfl ⟨Nat.le_of_ble_eq_true rfl, Nat.le_of_ble_eq_true rfl⟩ (Nat.le_of_ble_eq_true rfl) ⟨Nat.zero_le _, Nat.zero_le _⟩ rfl dX1_letTurnGoBy_71 hR (fun r8 hr8 hR => ?_)
          refine xr_istore_n C dX1_letTurnGoBy_74 rfl (by decide) ?_
          refine xr_iinc (v := 1) C dX1_letTurnGoBy_75 rfl (by decide) rfl (by decide) ?_
          refine xr_goto (tgt := 53) C dX1_letTurnGoBy_78 (by decide) ?_
          exact xr_sub (lv9 := [some (.ref (xg_ad G k0)), some (.ref (xg_ad G k1)), some (.int r8.2), some (.int (a3 + 1))]) (And.intro rfl (And.intro rfl (And.intro rfl (And.intro rfl trivial)))) (ih _ _ _  hR)
set_option maxHeartbeats 4000000 in
set_option maxRecDepth 100000 in
theorem mcX1_letTurnGoBy (l : Launch) (G : xw_G) {k0 : Nat} (hk0 : xw_kd k0 = 1) {h : xw_M} {q : xw_M × Unit} (hR : mX1_letTurnGoBy k0 h = some q) : xc_M l G yX1_letTurnGoBy cX1_letTurnGoBy 4 none 4 90 [.ref (xg_ad G k0)] h q.1 none := by
  refine xc_of (by decide +kernel) rfl (Nat.le_of_ble_eq_true rfl) ?_
  intro p e s m args below meth c C hr
  have C : xj_C p s m args meth c G RX1 cX1_letTurnGoBy 4 := C
  show xj_X p l e { frames := 4, cells := 0, slots := 0, locals := 90 } s m args below meth c G 4 0 0 (MQ below (xw_Q G none q.1) args s 0 0 (xg_A G)) h [some (.ref (xg_ad G k0)), none, none, none] 0 []
  unfold mX1_letTurnGoBy at hR
  refine xr_aload_n C dX1_letTurnGoBy_0 rfl ?_
  refine xr_callVv C (st := []) [] cv_RX1_80 hk0 (fun _ zz9 => mcX1_wakeSleepers l G hk0 zz9) rfl ⟨Nat.le_of_ble_eq_true rfl, Nat.le_of_ble_eq_true rfl⟩ (Nat.le_of_ble_eq_true rfl) ⟨Nat.zero_le _, Nat.zero_le _⟩ rfl dX1_letTurnGoBy_1 hR (fun r1 hr1 hR => ?_)
  refine xr_aload_n C dX1_letTurnGoBy_4 rfl ?_
  refine xr_get C hk0 fl_RX1_38 rfl dX1_letTurnGoBy_5 ?_
  refine xr_get C (kp_1_4 hk0) fl_RX1_83 rfl dX1_letTurnGoBy_8 ?_
  refine xr_if_gt (tgt := 27) C dX1_letTurnGoBy_11 (by decide) hR (fun hR => ?_) (fun hR => ?_)
  · refine xr_aload_n C dX1_letTurnGoBy_27 rfl ?_
    refine xr_aload_n C dX1_letTurnGoBy_28 rfl ?_
    refine xr_get C hk0 fl_RX1_38 rfl dX1_letTurnGoBy_29 ?_
    refine xr_callVi C (st := [.ref (xg_ad G k0)]) [] cv_RX1_86 (kp_1_4 hk0) (fun _ zz9 => mcX3_takeFirst l G (kp_1_4 hk0) zz9) rfl ⟨Nat.le_of_ble_eq_true rfl, Nat.le_of_ble_eq_true rfl⟩ (Nat.le_of_ble_eq_true rfl) ⟨Nat.zero_le _, Nat.zero_le _⟩ rfl dX1_letTurnGoBy_32 hR (fun r2 hr2 hR => ?_)
    refine xr_callVr C (st := []) [.int r2.2] cv_RX1_66 hk0 (fun _ zz9 => mcX1_fiberAt l G hk0 zz9) rfl ⟨Nat.le_of_ble_eq_true rfl, Nat.le_of_ble_eq_true rfl⟩ (Nat.le_of_ble_eq_true rfl) ⟨Nat.zero_le _, Nat.zero_le _⟩ rfl dX1_letTurnGoBy_35 hR (fun r3 hr3 hR => ?_)
    refine xr_astore_n C dX1_letTurnGoBy_38 rfl (by decide) ?_
    refine xr_aload_n C dX1_letTurnGoBy_39 rfl ?_
    refine xr_dup C dX1_letTurnGoBy_40 rfl ?_
    refine xr_get C (kr_X1_fiberAt hk0 hr3) fl_RX1_89 rfl dX1_letTurnGoBy_41 ?_
    refine xr_iconst (v := 1) C dX1_letTurnGoBy_44 (by decide) ?_
    refine xr_iadd C dX1_letTurnGoBy_45 ?_
    refine xr_putL C (kr_X1_fiberAt hk0 hr3) fl_RX1_89 pf_2_5 dX1_letTurnGoBy_46 hR (fun h4 hR => ?_)
    refine xr_iconst (v := 1) C dX1_letTurnGoBy_49 (by decide) ?_
    refine xr_istore_n C dX1_letTurnGoBy_50 rfl (by decide) ?_
    refine xr_iconst (v := 0) C dX1_letTurnGoBy_51 (by decide) ?_
    refine xr_istore_n C dX1_letTurnGoBy_52 rfl (by decide) ?_
    exact xr_sub (lv9 := [some (.ref (xg_ad G k0)), some (.ref (xg_ad G r3.2)), some (.int (1 : Int32)), some (.int (0 : Int32))]) (And.intro rfl (And.intro rfl (And.intro rfl (And.intro rfl trivial)))) (mbX1_letTurnGoBy_b53 C hr  hk0 (kr_X1_fiberAt hk0 hr3) _ _ _ _  hR)
  · refine xr_aload_n C dX1_letTurnGoBy_14 rfl ?_
    refine xr_dup C dX1_letTurnGoBy_15 rfl ?_
    refine xr_get C hk0 fl_RX1_52 rfl dX1_letTurnGoBy_16 ?_
    refine xr_iconst (v := 1) C dX1_letTurnGoBy_19 (by decide) ?_
    refine xr_iadd C dX1_letTurnGoBy_20 ?_
    refine xr_putL C hk0 fl_RX1_52 pf_1_8 dX1_letTurnGoBy_21 hR (fun h9 hR => ?_)
    refine xr_goto (tgt := 86) C dX1_letTurnGoBy_24 (by decide) ?_
    exact xr_sub (lv9 := [some (.ref (xg_ad G k0)), none, none, none]) (And.intro rfl trivial) (mbX1_letTurnGoBy_b86 C hr  hk0  hR)
end
