section
def mX5_time (k0 : Nat) (h : xw_M) : Option (xw_M × Int32) := some (h, (h 0 7))
set_option maxHeartbeats 4000000 in
set_option maxRecDepth 100000 in
theorem mcX5_time (l : Launch) (G : xw_G) {k0 : Nat} (hk0 : xw_kd k0 = 5) {h : xw_M} {q : xw_M × Int32} (hR : mX5_time k0 h = some q) : xc_M l G yX5_time cX5_time 1 (some .int) 0 0 [.ref (xg_ad G k0)] h q.1 (some (.int q.2)) := by
  refine xc_of (by decide +kernel) rfl (Nat.le_of_ble_eq_true rfl) ?_
  intro p e s m args below meth c C hr
  have C : xj_C p s m args meth c G RX5 cX5_time 1 := C
  show xj_X p l e { frames := 0, cells := 0, slots := 0, locals := 0 } s m args below meth c G 1 0 0 (MQ below (xw_Q G (some (.int q.2)) q.1) args s 0 0 (xg_A G)) h [some (.ref (xg_ad G k0))] 0 []
  unfold mX5_time at hR
  refine xr_aload_n C dX5_time_0 rfl ?_
  refine xr_get C hk0 fl_RX5_10 rfl dX5_time_1 ?_
  refine xr_get C kp_5_0 fl_RX5_130 rfl dX5_time_4 ?_
  exact xr_iret C hr dX5_time_7 hR
end
section
def mX5_channels (k0 : Nat) (h : xw_M) : Option (xw_M × Int32) := some (h, (h 0 5))
set_option maxHeartbeats 4000000 in
set_option maxRecDepth 100000 in
theorem mcX5_channels (l : Launch) (G : xw_G) {k0 : Nat} (hk0 : xw_kd k0 = 5) {h : xw_M} {q : xw_M × Int32} (hR : mX5_channels k0 h = some q) : xc_M l G yX5_channels cX5_channels 1 (some .int) 0 0 [.ref (xg_ad G k0)] h q.1 (some (.int q.2)) := by
  refine xc_of (by decide +kernel) rfl (Nat.le_of_ble_eq_true rfl) ?_
  intro p e s m args below meth c C hr
  have C : xj_C p s m args meth c G RX5 cX5_channels 1 := C
  show xj_X p l e { frames := 0, cells := 0, slots := 0, locals := 0 } s m args below meth c G 1 0 0 (MQ below (xw_Q G (some (.int q.2)) q.1) args s 0 0 (xg_A G)) h [some (.ref (xg_ad G k0))] 0 []
  unfold mX5_channels at hR
  refine xr_aload_n C dX5_channels_0 rfl ?_
  refine xr_get C hk0 fl_RX5_10 rfl dX5_channels_1 ?_
  refine xr_get C kp_5_0 fl_RX5_26 rfl dX5_channels_4 ?_
  exact xr_iret C hr dX5_channels_7 hR
end
section
def mX5_fibers (k0 : Nat) (h : xw_M) : Option (xw_M × Int32) := some (h, (h 0 6))
set_option maxHeartbeats 4000000 in
set_option maxRecDepth 100000 in
theorem mcX5_fibers (l : Launch) (G : xw_G) {k0 : Nat} (hk0 : xw_kd k0 = 5) {h : xw_M} {q : xw_M × Int32} (hR : mX5_fibers k0 h = some q) : xc_M l G yX5_fibers cX5_fibers 1 (some .int) 0 0 [.ref (xg_ad G k0)] h q.1 (some (.int q.2)) := by
  refine xc_of (by decide +kernel) rfl (Nat.le_of_ble_eq_true rfl) ?_
  intro p e s m args below meth c C hr
  have C : xj_C p s m args meth c G RX5 cX5_fibers 1 := C
  show xj_X p l e { frames := 0, cells := 0, slots := 0, locals := 0 } s m args below meth c G 1 0 0 (MQ below (xw_Q G (some (.int q.2)) q.1) args s 0 0 (xg_A G)) h [some (.ref (xg_ad G k0))] 0 []
  unfold mX5_fibers at hR
  refine xr_aload_n C dX5_fibers_0 rfl ?_
  refine xr_get C hk0 fl_RX5_10 rfl dX5_fibers_1 ?_
  refine xr_get C kp_5_0 fl_RX5_44 rfl dX5_fibers_4 ?_
  exact xr_iret C hr dX5_fibers_7 hR
end
section
def mX5_done (k0 : Nat) (h : xw_M) : Option (xw_M × Int32) := (mX1_countDone 0 h).bind fun r1 => some (r1.1, r1.2)
set_option maxHeartbeats 4000000 in
set_option maxRecDepth 100000 in
theorem mcX5_done (l : Launch) (G : xw_G) {k0 : Nat} (hk0 : xw_kd k0 = 5) {h : xw_M} {q : xw_M × Int32} (hR : mX5_done k0 h = some q) : xc_M l G yX5_done cX5_done 1 (some .int) 2 44 [.ref (xg_ad G k0)] h q.1 (some (.int q.2)) := by
  refine xc_of (by decide +kernel) rfl (Nat.le_of_ble_eq_true rfl) ?_
  intro p e s m args below meth c C hr
  have C : xj_C p s m args meth c G RX5 cX5_done 1 := C
  show xj_X p l e { frames := 2, cells := 0, slots := 0, locals := 44 } s m args below meth c G 1 0 0 (MQ below (xw_Q G (some (.int q.2)) q.1) args s 0 0 (xg_A G)) h [some (.ref (xg_ad G k0))] 0 []
  unfold mX5_done at hR
  refine xr_aload_n C dX5_done_0 rfl ?_
  refine xr_get C hk0 fl_RX5_10 rfl dX5_done_1 ?_
  refine xr_callVi C (st := []) [] cv_RX5_133 kp_5_0 (fun _ zz9 => mcX1_countDone l G kp_5_0 zz9) rfl ⟨Nat.le_of_ble_eq_true rfl, Nat.le_of_ble_eq_true rfl⟩ (Nat.le_of_ble_eq_true rfl) ⟨Nat.zero_le _, Nat.zero_le _⟩ rfl dX5_done_4 hR (fun r1 hr1 hR => ?_)
  exact xr_iret C hr dX5_done_7 hR
end
section
def mX5_idleTurns (k0 : Nat) (h : xw_M) : Option (xw_M × Int32) := some (h, (h 0 8))
set_option maxHeartbeats 4000000 in
set_option maxRecDepth 100000 in
theorem mcX5_idleTurns (l : Launch) (G : xw_G) {k0 : Nat} (hk0 : xw_kd k0 = 5) {h : xw_M} {q : xw_M × Int32} (hR : mX5_idleTurns k0 h = some q) : xc_M l G yX5_idleTurns cX5_idleTurns 1 (some .int) 0 0 [.ref (xg_ad G k0)] h q.1 (some (.int q.2)) := by
  refine xc_of (by decide +kernel) rfl (Nat.le_of_ble_eq_true rfl) ?_
  intro p e s m args below meth c C hr
  have C : xj_C p s m args meth c G RX5 cX5_idleTurns 1 := C
  show xj_X p l e { frames := 0, cells := 0, slots := 0, locals := 0 } s m args below meth c G 1 0 0 (MQ below (xw_Q G (some (.int q.2)) q.1) args s 0 0 (xg_A G)) h [some (.ref (xg_ad G k0))] 0 []
  unfold mX5_idleTurns at hR
  refine xr_aload_n C dX5_idleTurns_0 rfl ?_
  refine xr_get C hk0 fl_RX5_10 rfl dX5_idleTurns_1 ?_
  refine xr_get C kp_5_0 fl_RX5_124 rfl dX5_idleTurns_4 ?_
  exact xr_iret C hr dX5_idleTurns_7 hR
end
section
def mX5_next (k0 : Nat) (h : xw_M) : Option (xw_M × Int32) := (mX3_look (0 + 3) (0 : Int32) h).bind fun r1 => some (r1.1, r1.2)
set_option maxHeartbeats 4000000 in
set_option maxRecDepth 100000 in
theorem mcX5_next (l : Launch) (G : xw_G) {k0 : Nat} (hk0 : xw_kd k0 = 5) {h : xw_M} {q : xw_M × Int32} (hR : mX5_next k0 h = some q) : xc_M l G yX5_next cX5_next 1 (some .int) 1 21 [.ref (xg_ad G k0)] h q.1 (some (.int q.2)) := by
  refine xc_of (by decide +kernel) rfl (Nat.le_of_ble_eq_true rfl) ?_
  intro p e s m args below meth c C hr
  have C : xj_C p s m args meth c G RX5 cX5_next 1 := C
  show xj_X p l e { frames := 1, cells := 0, slots := 0, locals := 21 } s m args below meth c G 1 0 0 (MQ below (xw_Q G (some (.int q.2)) q.1) args s 0 0 (xg_A G)) h [some (.ref (xg_ad G k0))] 0 []
  unfold mX5_next at hR
  refine xr_aload_n C dX5_next_0 rfl ?_
  refine xr_get C hk0 fl_RX5_10 rfl dX5_next_1 ?_
  refine xr_get C kp_5_0 fl_RX5_137 rfl dX5_next_4 ?_
  refine xr_iconst (v := 0) C dX5_next_7 (by decide) ?_
  refine xr_callVi C (st := []) [.int (0 : Int32)] cv_RX5_140 (kp_1_4 kp_5_0) (fun _ zz9 => mcX3_look l G (kp_1_4 kp_5_0) zz9) rfl ⟨Nat.le_of_ble_eq_true rfl, Nat.le_of_ble_eq_true rfl⟩ (Nat.le_of_ble_eq_true rfl) ⟨Nat.zero_le _, Nat.zero_le _⟩ rfl dX5_next_8 hR (fun r1 hr1 hR => ?_)
  exact xr_iret C hr dX5_next_11 hR
end
section
def mX5_isStuck (k0 : Nat) (h : xw_M) : Option (xw_M × Int32) := (mX1_hasStopped 0 h).bind fun r1 => (if r1.2 = 0 then some (r1.1, (0 : Int32)) else (mX1_allAreDone 0 r1.1).bind fun r2 => (if r2.2 = 0 then some (r2.1, (1 : Int32)) else some (r2.1, (0 : Int32))))
set_option maxHeartbeats 4000000 in
set_option maxRecDepth 100000 in
theorem mcX5_isStuck (l : Launch) (G : xw_G) {k0 : Nat} (hk0 : xw_kd k0 = 5) {h : xw_M} {q : xw_M × Int32} (hR : mX5_isStuck k0 h = some q) : xc_M l G yX5_isStuck cX5_isStuck 1 (some .boolean) 3 64 [.ref (xg_ad G k0)] h q.1 (some (.int q.2)) := by
  refine xc_of (by decide +kernel) rfl (Nat.le_of_ble_eq_true rfl) ?_
  intro p e s m args below meth c C hr
  have C : xj_C p s m args meth c G RX5 cX5_isStuck 1 := C
  show xj_X p l e { frames := 3, cells := 0, slots := 0, locals := 64 } s m args below meth c G 1 0 0 (MQ below (xw_Q G (some (.int q.2)) q.1) args s 0 0 (xg_A G)) h [some (.ref (xg_ad G k0))] 0 []
  unfold mX5_isStuck at hR
  refine xr_aload_n C dX5_isStuck_0 rfl ?_
  refine xr_get C hk0 fl_RX5_10 rfl dX5_isStuck_1 ?_
  refine xr_callVi C (st := []) [] cv_RX5_144 kp_5_0 (fun _ zz9 => mcX1_hasStopped l G kp_5_0 zz9) rfl ⟨Nat.le_of_ble_eq_true rfl, Nat.le_of_ble_eq_true rfl⟩ (Nat.le_of_ble_eq_true rfl) ⟨Nat.zero_le _, Nat.zero_le _⟩ rfl dX5_isStuck_4 hR (fun r1 hr1 hR => ?_)
  refine xr_if_eq (tgt := 24) C dX5_isStuck_7 (by decide) hR (fun hR => ?_) (fun hR => ?_)
  · refine xr_iconst (v := 0) C dX5_isStuck_24 (by decide) ?_
    exact xr_zret C hr (Or.inl rfl) dX5_isStuck_25 hR
  · refine xr_aload_n C dX5_isStuck_10 rfl ?_
    refine xr_get C hk0 fl_RX5_10 rfl dX5_isStuck_11 ?_
    refine xr_callVi C (st := []) [] cv_RX5_147 kp_5_0 (fun _ zz9 => mcX1_allAreDone l G kp_5_0 zz9) rfl ⟨Nat.le_of_ble_eq_true rfl, Nat.le_of_ble_eq_true rfl⟩ (Nat.le_of_ble_eq_true rfl) ⟨Nat.zero_le _, Nat.zero_le _⟩ rfl dX5_isStuck_14 hR (fun r2 hr2 hR => ?_)
    refine xr_if_ne (tgt := 24) C dX5_isStuck_17 (by decide) hR (fun hR => ?_) (fun hR => ?_)
    · refine xr_iconst (v := 0) C dX5_isStuck_24 (by decide) ?_
      exact xr_zret C hr (Or.inl rfl) dX5_isStuck_25 hR
    · refine xr_iconst (v := 1) C dX5_isStuck_20 (by decide) ?_
      refine xr_goto (tgt := 25) C dX5_isStuck_21 (by decide) ?_
      exact xr_zret C hr (Or.inr rfl) dX5_isStuck_25 hR
end
section
def mX5_turnsUntilStuck_b43  (k0 : Nat) (a1 : Int32) (h : xw_M)  : Option (xw_M × Int32) := (mX1_hasStopped 175 h).bind fun r2 => (if r2.2 = 0 then some (r2.1, (-1 : Int32)) else (mX1_allAreDone 175 r2.1).bind fun r3 => (if r3.2 = 0 then some (r3.1, a1) else some (r3.1, (-1 : Int32))))
def mX5_turnsUntilStuck_b13  (k0 : Nat) : Nat → xw_M → Int32 → Option (xw_M × Int32)
  | 0, _, _ => none
  | n + 1, h, a1 => (if (200 : Int32) ≤ a1 then mX5_turnsUntilStuck_b43  (k0) (a1) h  else (mX1_hasStopped 175 h).bind fun r4 => (if r4.2 = 0 then (mX1_letTurnGoBy 175 r4.1).bind fun r5 => mX5_turnsUntilStuck_b13  k0 n r5.1 ((a1 + 1)) else mX5_turnsUntilStuck_b43  (k0) (a1) r4.1 ))
def mX5_turnsUntilStuck (k0 : Nat) (h : xw_M) : Option (xw_M × Int32) := (mX1_becomeLike 175 0 h).bind fun r1 => mX5_turnsUntilStuck_b13  (k0) xo_n r1.1 ((0 : Int32))
set_option maxHeartbeats 4000000 in
set_option maxRecDepth 100000 in
theorem mbX5_turnsUntilStuck_b43 {p : Program} {l : Launch} {e : Env} {s : State} {m : MethodId} {args : Array Value} {below : List Frame} {meth : Method} {c : Code} {G : xw_G} (C : xj_C p s m args meth c G RX5 cX5_turnsUntilStuck 2) (hr : meth.sig.returnType = (some .int)) {q : xw_M × Int32} {k0 : Nat} {a1 : Int32}  (hk0 : xw_kd k0 = 5) {h : xw_M}   (hR : mX5_turnsUntilStuck_b43  k0 a1 h  = some q) : xj_X p l e { frames := 5, cells := 0, slots := 0, locals := 113 } s m args below meth c G 2 0 0 (MQ below (xw_Q G (some (.int q.2)) q.1) args s 0 0 (xg_A G)) h [some (.ref (xg_ad G k0)), some (.int a1)] 43 [] := by
  unfold mX5_turnsUntilStuck_b43 at hR
  refine xr_aload_n C dX5_turnsUntilStuck_43 rfl ?_
  refine xr_get C hk0 fl_RX5_16 rfl dX5_turnsUntilStuck_44 ?_
  refine xr_callVi C (st := []) [] cv_RX5_144 kp_5_1 (fun _ zz9 => mcX1_hasStopped l G kp_5_1 zz9) rfl ⟨Nat.le_of_ble_eq_true rfl, Nat.le_of_ble_eq_true rfl⟩ (Nat.le_of_ble_eq_true rfl) ⟨Nat.zero_le _, Nat.zero_le _⟩ rfl dX5_turnsUntilStuck_47 hR (fun r2 hr2 hR => ?_)
  refine xr_if_eq (tgt := 67) C dX5_turnsUntilStuck_50 (by decide) hR (fun hR => ?_) (fun hR => ?_)
  · refine xr_iconst (v := (-1)) C dX5_turnsUntilStuck_67 (by decide) ?_
    exact xr_iret C hr dX5_turnsUntilStuck_68 hR
  · refine xr_aload_n C dX5_turnsUntilStuck_53 rfl ?_
    refine xr_get C hk0 fl_RX5_16 rfl dX5_turnsUntilStuck_54 ?_
    refine xr_callVi C (st := []) [] cv_RX5_147 kp_5_1 (fun _ zz9 => mcX1_allAreDone l G kp_5_1 zz9) rfl ⟨Nat.le_of_ble_eq_true rfl, Nat.le_of_ble_eq_true rfl⟩ (Nat.le_of_ble_eq_true rfl) ⟨Nat.zero_le _, Nat.zero_le _⟩ rfl dX5_turnsUntilStuck_57 hR (fun r3 hr3 hR => ?_)
    refine xr_if_ne (tgt := 67) C dX5_turnsUntilStuck_60 (by decide) hR (fun hR => ?_) (fun hR => ?_)
    · refine xr_iconst (v := (-1)) C dX5_turnsUntilStuck_67 (by decide) ?_
      exact xr_iret C hr dX5_turnsUntilStuck_68 hR
    · refine xr_iload_n C dX5_turnsUntilStuck_63 rfl ?_
      refine xr_goto (tgt := 68) C dX5_turnsUntilStuck_64 (by decide) ?_
      exact xr_iret C hr dX5_turnsUntilStuck_68 hR
set_option maxHeartbeats 4000000 in
set_option maxRecDepth 100000 in
theorem mbX5_turnsUntilStuck_b13 {p : Program} {l : Launch} {e : Env} {s : State} {m : MethodId} {args : Array Value} {below : List Frame} {meth : Method} {c : Code} {G : xw_G} (C : xj_C p s m args meth c G RX5 cX5_turnsUntilStuck 2) (hr : meth.sig.returnType = (some .int)) {q : xw_M × Int32} {k0 : Nat}  (hk0 : xw_kd k0 = 5) : ∀ (n : Nat) (h : xw_M) (a1 : Int32), mX5_turnsUntilStuck_b13  k0 n h a1 = some q → xj_X p l e { frames := 5, cells := 0, slots := 0, locals := 113 } s m args below meth c G 2 0 0 (MQ below (xw_Q G (some (.int q.2)) q.1) args s 0 0 (xg_A G)) h [some (.ref (xg_ad G k0)), some (.int a1)] 13 [] := by
  intro n
  induction n with
  | zero => intro h a1 hR; exact absurd (show (none : Option (xw_M × Int32)) = some q from hR) (fun z => by cases z)
  | succ n ih =>
    intro h a1 hR
    rw [mX5_turnsUntilStuck_b13.eq_2] at hR
    refine xr_iload_n C dX5_turnsUntilStuck_13 rfl ?_
    refine xr_sipush (v := 200) C dX5_turnsUntilStuck_14 (by decide) ?_
    refine xr_icmp_ge (tgt := 43) C dX5_turnsUntilStuck_17 (by decide) hR (fun hR => ?_) (fun hR => ?_)
    · exact xr_sub (lv9 := [some (.ref (xg_ad G k0)), some (.int a1)]) (And.intro rfl (And.intro rfl trivial)) (mbX5_turnsUntilStuck_b43 C hr  hk0  hR)
    · refine xr_aload_n C dX5_turnsUntilStuck_20 rfl ?_
      refine xr_get C hk0 fl_RX5_16 rfl dX5_turnsUntilStuck_21 ?_
      refine xr_callVi C (st := []) [] cv_RX5_144 kp_5_1 (fun _ zz9 => mcX1_hasStopped l G kp_5_1 zz9) rfl ⟨Nat.le_of_ble_eq_true rfl, Nat.le_of_ble_eq_true rfl⟩ (Nat.le_of_ble_eq_true rfl) ⟨Nat.zero_le _, Nat.zero_le _⟩ rfl dX5_turnsUntilStuck_24 hR (fun r4 hr4 hR => ?_)
      refine xr_if_ne (tgt := 43) C dX5_turnsUntilStuck_27 (by decide) hR (fun hR => ?_) (fun hR => ?_)
      · exact xr_sub (lv9 := [some (.ref (xg_ad G k0)), some (.int a1)]) (And.intro rfl (And.intro rfl trivial)) (mbX5_turnsUntilStuck_b43 C hr  hk0  hR)
      · refine xr_aload_n C dX5_turnsUntilStuck_30 rfl ?_
        refine xr_get C hk0 fl_RX5_16 rfl dX5_turnsUntilStuck_31 ?_
        refine xr_callVv C (st := []) [] cv_RX5_127 kp_5_1 (fun _ zz9 => mcX1_letTurnGoBy l G kp_5_1 zz9) rfl ⟨Nat.le_of_ble_eq_true rfl, Nat.le_of_ble_eq_true rfl⟩ (Nat.le_of_ble_eq_true rfl) ⟨Nat.zero_le _, Nat.zero_le _⟩ rfl dX5_turnsUntilStuck_34 hR (fun r5 hr5 hR => ?_)
        refine xr_iinc (v := 1) C dX5_turnsUntilStuck_37 rfl (by decide) rfl (by decide) ?_
        refine xr_goto (tgt := 13) C dX5_turnsUntilStuck_40 (by decide) ?_
        exact xr_sub (lv9 := [some (.ref (xg_ad G k0)), some (.int (a1 + 1))]) (And.intro rfl (And.intro rfl trivial)) (ih _ _  hR)
set_option maxHeartbeats 4000000 in
set_option maxRecDepth 100000 in
theorem mcX5_turnsUntilStuck (l : Launch) (G : xw_G) {k0 : Nat} (hk0 : xw_kd k0 = 5) {h : xw_M} {q : xw_M × Int32} (hR : mX5_turnsUntilStuck k0 h = some q) : xc_M l G yX5_turnsUntilStuck cX5_turnsUntilStuck 2 (some .int) 5 113 [.ref (xg_ad G k0)] h q.1 (some (.int q.2)) := by
  refine xc_of (by decide +kernel) rfl (Nat.le_of_ble_eq_true rfl) ?_
  intro p e s m args below meth c C hr
  have C : xj_C p s m args meth c G RX5 cX5_turnsUntilStuck 2 := C
  show xj_X p l e { frames := 5, cells := 0, slots := 0, locals := 113 } s m args below meth c G 2 0 0 (MQ below (xw_Q G (some (.int q.2)) q.1) args s 0 0 (xg_A G)) h [some (.ref (xg_ad G k0)), none] 0 []
  unfold mX5_turnsUntilStuck at hR
  refine xr_aload_n C dX5_turnsUntilStuck_0 rfl ?_
  refine xr_get C hk0 fl_RX5_16 rfl dX5_turnsUntilStuck_1 ?_
  refine xr_aload_n C dX5_turnsUntilStuck_4 rfl ?_
  refine xr_get C hk0 fl_RX5_10 rfl dX5_turnsUntilStuck_5 ?_
  refine xr_callVv C (st := []) [.ref (xg_ad G 0)] cv_RX5_173 kp_5_1 (fun _ zz9 => mcX1_becomeLike l G kp_5_1 kp_5_0 zz9) rfl ⟨Nat.le_of_ble_eq_true rfl, Nat.le_of_ble_eq_true rfl⟩ (Nat.le_of_ble_eq_true rfl) ⟨Nat.zero_le _, Nat.zero_le _⟩ rfl dX5_turnsUntilStuck_8 hR (fun r1 hr1 hR => ?_)
  refine xr_iconst (v := 0) C dX5_turnsUntilStuck_11 (by decide) ?_
  refine xr_istore_n C dX5_turnsUntilStuck_12 rfl (by decide) ?_
  exact xr_sub (lv9 := [some (.ref (xg_ad G k0)), some (.int (0 : Int32))]) (And.intro rfl (And.intro rfl trivial)) (mbX5_turnsUntilStuck_b13 C hr  hk0 _ _ _  hR)
end
section
def mX5_isChannel (k0 : Nat) (a1 : Int32) (h : xw_M) : Option (xw_M × Int32) := (if a1 < 0 then some (h, (0 : Int32)) else (if (h 0 5) ≤ a1 then some (h, (0 : Int32)) else some (h, (1 : Int32))))
set_option maxHeartbeats 4000000 in
set_option maxRecDepth 100000 in
theorem mcX5_isChannel (l : Launch) (G : xw_G) {k0 : Nat} {a1 : Int32} (hk0 : xw_kd k0 = 5) {h : xw_M} {q : xw_M × Int32} (hR : mX5_isChannel k0 a1 h = some q) : xc_M l G yX5_isChannel cX5_isChannel 2 (some .boolean) 0 0 [.ref (xg_ad G k0), .int a1] h q.1 (some (.int q.2)) := by
  refine xc_of (by decide +kernel) rfl (Nat.le_of_ble_eq_true rfl) ?_
  intro p e s m args below meth c C hr
  have C : xj_C p s m args meth c G RX5 cX5_isChannel 2 := C
  show xj_X p l e { frames := 0, cells := 0, slots := 0, locals := 0 } s m args below meth c G 2 0 0 (MQ below (xw_Q G (some (.int q.2)) q.1) args s 0 0 (xg_A G)) h [some (.ref (xg_ad G k0)), some (.int a1)] 0 []
  unfold mX5_isChannel at hR
  refine xr_iload_n C dX5_isChannel_0 rfl ?_
  refine xr_if_lt (tgt := 19) C dX5_isChannel_1 (by decide) hR (fun hR => ?_) (fun hR => ?_)
  · refine xr_iconst (v := 0) C dX5_isChannel_19 (by decide) ?_
    exact xr_zret C hr (Or.inl rfl) dX5_isChannel_20 hR
  · refine xr_iload_n C dX5_isChannel_4 rfl ?_
    refine xr_aload_n C dX5_isChannel_5 rfl ?_
    refine xr_get C hk0 fl_RX5_10 rfl dX5_isChannel_6 ?_
    refine xr_get C kp_5_0 fl_RX5_26 rfl dX5_isChannel_9 ?_
    refine xr_icmp_ge (tgt := 19) C dX5_isChannel_12 (by decide) hR (fun hR => ?_) (fun hR => ?_)
    · refine xr_iconst (v := 0) C dX5_isChannel_19 (by decide) ?_
      exact xr_zret C hr (Or.inl rfl) dX5_isChannel_20 hR
    · refine xr_iconst (v := 1) C dX5_isChannel_15 (by decide) ?_
      refine xr_goto (tgt := 20) C dX5_isChannel_16 (by decide) ?_
      exact xr_zret C hr (Or.inr rfl) dX5_isChannel_20 hR
end
section
def mX5_isFiber (k0 : Nat) (a1 : Int32) (h : xw_M) : Option (xw_M × Int32) := (if a1 < 0 then some (h, (0 : Int32)) else (if (h 0 6) ≤ a1 then some (h, (0 : Int32)) else some (h, (1 : Int32))))
set_option maxHeartbeats 4000000 in
set_option maxRecDepth 100000 in
theorem mcX5_isFiber (l : Launch) (G : xw_G) {k0 : Nat} {a1 : Int32} (hk0 : xw_kd k0 = 5) {h : xw_M} {q : xw_M × Int32} (hR : mX5_isFiber k0 a1 h = some q) : xc_M l G yX5_isFiber cX5_isFiber 2 (some .boolean) 0 0 [.ref (xg_ad G k0), .int a1] h q.1 (some (.int q.2)) := by
  refine xc_of (by decide +kernel) rfl (Nat.le_of_ble_eq_true rfl) ?_
  intro p e s m args below meth c C hr
  have C : xj_C p s m args meth c G RX5 cX5_isFiber 2 := C
  show xj_X p l e { frames := 0, cells := 0, slots := 0, locals := 0 } s m args below meth c G 2 0 0 (MQ below (xw_Q G (some (.int q.2)) q.1) args s 0 0 (xg_A G)) h [some (.ref (xg_ad G k0)), some (.int a1)] 0 []
  unfold mX5_isFiber at hR
  refine xr_iload_n C dX5_isFiber_0 rfl ?_
  refine xr_if_lt (tgt := 19) C dX5_isFiber_1 (by decide) hR (fun hR => ?_) (fun hR => ?_)
  · refine xr_iconst (v := 0) C dX5_isFiber_19 (by decide) ?_
    exact xr_zret C hr (Or.inl rfl) dX5_isFiber_20 hR
  · refine xr_iload_n C dX5_isFiber_4 rfl ?_
    refine xr_aload_n C dX5_isFiber_5 rfl ?_
    refine xr_get C hk0 fl_RX5_10 rfl dX5_isFiber_6 ?_
    refine xr_get C kp_5_0 fl_RX5_44 rfl dX5_isFiber_9 ?_
    refine xr_icmp_ge (tgt := 19) C dX5_isFiber_12 (by decide) hR (fun hR => ?_) (fun hR => ?_)
    · refine xr_iconst (v := 0) C dX5_isFiber_19 (by decide) ?_
      exact xr_zret C hr (Or.inl rfl) dX5_isFiber_20 hR
    · refine xr_iconst (v := 1) C dX5_isFiber_15 (by decide) ?_
      refine xr_goto (tgt := 20) C dX5_isFiber_16 (by decide) ?_
      exact xr_zret C hr (Or.inr rfl) dX5_isFiber_20 hR
end
section
def mX5_isValue (k0 : Nat) (a1 : Int32) (h : xw_M) : Option (xw_M × Int32) := (if a1 < (-999 : Int32) then some (h, (0 : Int32)) else (if (999 : Int32) < a1 then some (h, (0 : Int32)) else some (h, (1 : Int32))))
set_option maxHeartbeats 4000000 in
set_option maxRecDepth 100000 in
theorem mcX5_isValue (l : Launch) (G : xw_G) {k0 : Nat} {a1 : Int32} (hk0 : xw_kd k0 = 5) {h : xw_M} {q : xw_M × Int32} (hR : mX5_isValue k0 a1 h = some q) : xc_M l G yX5_isValue cX5_isValue 2 (some .boolean) 0 0 [.ref (xg_ad G k0), .int a1] h q.1 (some (.int q.2)) := by
  refine xc_of (by decide +kernel) rfl (Nat.le_of_ble_eq_true rfl) ?_
  intro p e s m args below meth c C hr
  have C : xj_C p s m args meth c G RX5 cX5_isValue 2 := C
  show xj_X p l e { frames := 0, cells := 0, slots := 0, locals := 0 } s m args below meth c G 2 0 0 (MQ below (xw_Q G (some (.int q.2)) q.1) args s 0 0 (xg_A G)) h [some (.ref (xg_ad G k0)), some (.int a1)] 0 []
  unfold mX5_isValue at hR
  refine xr_iload_n C dX5_isValue_0 rfl ?_
  refine xr_sipush (v := (-999)) C dX5_isValue_1 (by decide) ?_
  refine xr_icmp_lt (tgt := 18) C dX5_isValue_4 (by decide) hR (fun hR => ?_) (fun hR => ?_)
  · refine xr_iconst (v := 0) C dX5_isValue_18 (by decide) ?_
    exact xr_zret C hr (Or.inl rfl) dX5_isValue_19 hR
  · refine xr_iload_n C dX5_isValue_7 rfl ?_
    refine xr_sipush (v := 999) C dX5_isValue_8 (by decide) ?_
    refine xr_icmp_gt (tgt := 18) C dX5_isValue_11 (by decide) hR (fun hR => ?_) (fun hR => ?_)
    · refine xr_iconst (v := 0) C dX5_isValue_18 (by decide) ?_
      exact xr_zret C hr (Or.inl rfl) dX5_isValue_19 hR
    · refine xr_iconst (v := 1) C dX5_isValue_14 (by decide) ?_
      refine xr_goto (tgt := 19) C dX5_isValue_15 (by decide) ?_
      exact xr_zret C hr (Or.inr rfl) dX5_isValue_19 hR
end
section
def mX5_isStep_b67  (k0 : Nat) (a3 : Int32) (h : xw_M)  : Option (xw_M × Int32) := (mX5_isChannel k0 a3 h).bind fun r4 => (if r4.2 = 0 ∨ r4.2 = 1 then some (r4.1, r4.2) else none)
def mX5_isStep (k0 : Nat) (a1 : Int32) (a2 : Int32) (a3 : Int32) (a4 : Int32) (h : xw_M) : Option (xw_M × Int32) := (if a2 = (0 : Int32) then (mX5_isChannel k0 a3 h).bind fun r1 => (if r1.2 = 0 then some (r1.1, (0 : Int32)) else (mX5_isValue k0 a4 r1.1).bind fun r2 => (if r2.2 = 0 then some (r2.1, (0 : Int32)) else some (r2.1, (1 : Int32)))) else (if a2 = (1 : Int32) then mX5_isStep_b67  (k0) (a3) h  else (if a2 = (2 : Int32) then (if a3 < (1 : Int32) then some (h, (0 : Int32)) else (if (20 : Int32) < a3 then some (h, (0 : Int32)) else some (h, (1 : Int32)))) else (if a2 = (3 : Int32) then some (h, (1 : Int32)) else (if a2 = (4 : Int32) then (mX5_isFiber k0 a3 h).bind fun r8 => (if r8.2 = 0 then some (r8.1, (0 : Int32)) else (if a3 = a1 then some (r8.1, (0 : Int32)) else some (r8.1, (1 : Int32)))) else (if a2 = (5 : Int32) then (if a3 < 0 then some (h, (0 : Int32)) else (mX1_fiberAt 0 a1 h).bind fun r10 => (if (r10.1 r10.2 7) < a3 then some (r10.1, (0 : Int32)) else (if a4 < (1 : Int32) then some (r10.1, (0 : Int32)) else (if (9 : Int32) < a4 then some (r10.1, (0 : Int32)) else some (r10.1, (1 : Int32)))))) else (if a2 = (6 : Int32) then mX5_isStep_b67  (k0) (a3) h  else some (h, (0 : Int32)))))))))
set_option maxHeartbeats 4000000 in
set_option maxRecDepth 100000 in
theorem mbX5_isStep_b67 {p : Program} {l : Launch} {e : Env} {s : State} {m : MethodId} {args : Array Value} {below : List Frame} {meth : Method} {c : Code} {G : xw_G} (C : xj_C p s m args meth c G RX5 cX5_isStep 5) (hr : meth.sig.returnType = (some .boolean)) {q : xw_M × Int32} {k0 : Nat} {a3 : Int32}  (hk0 : xw_kd k0 = 5) {h : xw_M}   (hR : mX5_isStep_b67  k0 a3 h  = some q) : xj_X p l e { frames := 1, cells := 0, slots := 0, locals := 22 } s m args below meth c G 5 0 0 (MQ below (xw_Q G (some (.int q.2)) q.1) args s 0 0 (xg_A G)) h [some (.ref (xg_ad G k0)), none, none, some (.int a3), none] 67 [] := by
  unfold mX5_isStep_b67 at hR
  refine xr_aload_n C dX5_isStep_67 rfl ?_
  refine xr_iload_n C dX5_isStep_68 rfl ?_
  refine xr_callVi C (st := []) [.int a3] cv_RX5_242 hk0 (fun _ zz9 => mcX5_isChannel l G hk0 zz9) rfl ⟨Nat.le_of_ble_eq_true rfl, Nat.le_of_ble_eq_true rfl⟩ (Nat.le_of_ble_eq_true rfl) ⟨Nat.zero_le _, Nat.zero_le _⟩ rfl dX5_isStep_69 hR (fun r4 hr4 hR => ?_)
  exact xr_zretG C hr dX5_isStep_72 hR
set_option maxHeartbeats 4000000 in
set_option maxRecDepth 100000 in
theorem mcX5_isStep (l : Launch) (G : xw_G) {k0 : Nat} {a1 : Int32} {a2 : Int32} {a3 : Int32} {a4 : Int32} (hk0 : xw_kd k0 = 5) {h : xw_M} {q : xw_M × Int32} (hR : mX5_isStep k0 a1 a2 a3 a4 h = some q) : xc_M l G yX5_isStep cX5_isStep 5 (some .boolean) 1 22 [.ref (xg_ad G k0), .int a1, .int a2, .int a3, .int a4] h q.1 (some (.int q.2)) := by
  refine xc_of (by decide +kernel) rfl (Nat.le_of_ble_eq_true rfl) ?_
  intro p e s m args below meth c C hr
  have C : xj_C p s m args meth c G RX5 cX5_isStep 5 := C
  show xj_X p l e { frames := 1, cells := 0, slots := 0, locals := 22 } s m args below meth c G 5 0 0 (MQ below (xw_Q G (some (.int q.2)) q.1) args s 0 0 (xg_A G)) h [some (.ref (xg_ad G k0)), some (.int a1), some (.int a2), some (.int a3), some (.int a4)] 0 []
  unfold mX5_isStep at hR
  refine xr_iload_n C dX5_isStep_0 rfl ?_
  refine xo_if hR (fun hx3 hR => ?_) (fun hx3 hR => ?_)
  · refine xr_tabIn (off := 43) (tgt := 44) C dX5_isStep_1 (by rw [hx3]; decide) (by rw [hx3]; decide) (by rw [hx3]; decide) (by decide) ?_
    refine xr_aload_n C dX5_isStep_44 rfl ?_
    refine xr_iload_n C dX5_isStep_45 rfl ?_
    refine xr_callVi C (st := []) [.int a3] cv_RX5_242 hk0 (fun _ zz9 => mcX5_isChannel l G hk0 zz9) rfl ⟨Nat.le_of_ble_eq_true rfl, Nat.le_of_ble_eq_true rfl⟩ (Nat.le_of_ble_eq_true rfl) ⟨Nat.zero_le _, Nat.zero_le _⟩ rfl dX5_isStep_46 hR (fun r1 hr1 hR => ?_)
    refine xr_if_eq (tgt := 65) C dX5_isStep_49 (by decide) hR (fun hR => ?_) (fun hR => ?_)
    · refine xr_iconst (v := 0) C dX5_isStep_65 (by decide) ?_
      exact xr_zret C hr (Or.inl rfl) dX5_isStep_66 hR
    · refine xr_aload_n C dX5_isStep_52 rfl ?_
      refine xr_iload C dX5_isStep_53 rfl ?_
      refine xr_callVi C (st := []) [.int a4] cv_RX5_90 hk0 (fun _ zz9 => mcX5_isValue l G hk0 zz9) rfl ⟨Nat.le_of_ble_eq_true rfl, Nat.le_of_ble_eq_true rfl⟩ (Nat.le_of_ble_eq_true rfl) ⟨Nat.zero_le _, Nat.zero_le _⟩ rfl dX5_isStep_55 hR (fun r2 hr2 hR => ?_)
      refine xr_if_eq (tgt := 65) C dX5_isStep_58 (by decide) hR (fun hR => ?_) (fun hR => ?_)
      · refine xr_iconst (v := 0) C dX5_isStep_65 (by decide) ?_
        exact xr_zret C hr (Or.inl rfl) dX5_isStep_66 hR
      · refine xr_iconst (v := 1) C dX5_isStep_61 (by decide) ?_
        refine xr_goto (tgt := 66) C dX5_isStep_62 (by decide) ?_
        exact xr_zret C hr (Or.inr rfl) dX5_isStep_66 hR
  · have hx3n := hx3
    refine xo_if hR (fun hx5 hR => ?_) (fun hx5 hR => ?_)
    · refine xr_tabIn (off := 66) (tgt := 67) C dX5_isStep_1 (by rw [hx5]; decide) (by rw [hx5]; decide) (by rw [hx5]; decide) (by decide) ?_
      exact xr_sub (lv9 := [some (.ref (xg_ad G k0)), none, none, some (.int a3), none]) (And.intro rfl (And.intro rfl trivial)) (mbX5_isStep_b67 C hr  hk0  hR)
    · have hx5n := hx5
      refine xo_if hR (fun hx6 hR => ?_) (fun hx6 hR => ?_)
      · refine xr_tabIn (off := 72) (tgt := 73) C dX5_isStep_1 (by rw [hx6]; decide) (by rw [hx6]; decide) (by rw [hx6]; decide) (by decide) ?_
        refine xr_iload_n C dX5_isStep_73 rfl ?_
        refine xr_iconst (v := 1) C dX5_isStep_74 (by decide) ?_
        refine xr_icmp_lt (tgt := 88) C dX5_isStep_75 (by decide) hR (fun hR => ?_) (fun hR => ?_)
        · refine xr_iconst (v := 0) C dX5_isStep_88 (by decide) ?_
          exact xr_zret C hr (Or.inl rfl) dX5_isStep_89 hR
        · refine xr_iload_n C dX5_isStep_78 rfl ?_
          refine xr_bipush (v := 20) C dX5_isStep_79 (by decide) ?_
          refine xr_icmp_gt (tgt := 88) C dX5_isStep_81 (by decide) hR (fun hR => ?_) (fun hR => ?_)
          · refine xr_iconst (v := 0) C dX5_isStep_88 (by decide) ?_
            exact xr_zret C hr (Or.inl rfl) dX5_isStep_89 hR
          · refine xr_iconst (v := 1) C dX5_isStep_84 (by decide) ?_
            refine xr_goto (tgt := 89) C dX5_isStep_85 (by decide) ?_
            exact xr_zret C hr (Or.inr rfl) dX5_isStep_89 hR
      · have hx6n := hx6
        refine xo_if hR (fun hx7 hR => ?_) (fun hx7 hR => ?_)
        · refine xr_tabIn (off := 89) (tgt := 90) C dX5_isStep_1 (by rw [hx7]; decide) (by rw [hx7]; decide) (by rw [hx7]; decide) (by decide) ?_
          refine xr_iconst (v := 1) C dX5_isStep_90 (by decide) ?_
          exact xr_zret C hr (Or.inr rfl) dX5_isStep_91 hR
        · have hx7n := hx7
          refine xo_if hR (fun hx9 hR => ?_) (fun hx9 hR => ?_)
          · refine xr_tabIn (off := 91) (tgt := 92) C dX5_isStep_1 (by rw [hx9]; decide) (by rw [hx9]; decide) (by rw [hx9]; decide) (by decide) ?_
            refine xr_aload_n C dX5_isStep_92 rfl ?_
            refine xr_iload_n C dX5_isStep_93 rfl ?_
            refine xr_callVi C (st := []) [.int a3] cv_RX5_247 hk0 (fun _ zz9 => mcX5_isFiber l G hk0 zz9) rfl ⟨Nat.le_of_ble_eq_true rfl, Nat.le_of_ble_eq_true rfl⟩ (Nat.le_of_ble_eq_true rfl) ⟨Nat.zero_le _, Nat.zero_le _⟩ rfl dX5_isStep_94 hR (fun r8 hr8 hR => ?_)
            refine xr_if_eq (tgt := 109) C dX5_isStep_97 (by decide) hR (fun hR => ?_) (fun hR => ?_)
            · refine xr_iconst (v := 0) C dX5_isStep_109 (by decide) ?_
              exact xr_zret C hr (Or.inl rfl) dX5_isStep_110 hR
            · refine xr_iload_n C dX5_isStep_100 rfl ?_
              refine xr_iload_n C dX5_isStep_101 rfl ?_
              refine xr_icmp_eq (tgt := 109) C dX5_isStep_102 (by decide) hR (fun hR => ?_) (fun hR => ?_)
              · refine xr_iconst (v := 0) C dX5_isStep_109 (by decide) ?_
                exact xr_zret C hr (Or.inl rfl) dX5_isStep_110 hR
              · refine xr_iconst (v := 1) C dX5_isStep_105 (by decide) ?_
                refine xr_goto (tgt := 110) C dX5_isStep_106 (by decide) ?_
                exact xr_zret C hr (Or.inr rfl) dX5_isStep_110 hR
          · have hx9n := hx9
            refine xo_if hR (fun hx11 hR => ?_) (fun hx11 hR => ?_)
            · refine xr_tabIn (off := 110) (tgt := 111) C dX5_isStep_1 (by rw [hx11]; decide) (by rw [hx11]; decide) (by rw [hx11]; decide) (by decide) ?_
              refine xr_iload_n C dX5_isStep_111 rfl ?_
              refine xr_if_lt (tgt := 147) C dX5_isStep_112 (by decide) hR (fun hR => ?_) (fun hR => ?_)
              · refine xr_iconst (v := 0) C dX5_isStep_147 (by decide) ?_
                exact xr_zret C hr (Or.inl rfl) dX5_isStep_148 hR
              · refine xr_iload_n C dX5_isStep_115 rfl ?_
                refine xr_aload_n C dX5_isStep_116 rfl ?_
                refine xr_get C hk0 fl_RX5_10 rfl dX5_isStep_117 ?_
                refine xr_iload_n C dX5_isStep_120 rfl ?_
                refine xr_callVr C (st := [.int a3]) [.int a1] cv_RX5_59 kp_5_0 (fun _ zz9 => mcX1_fiberAt l G kp_5_0 zz9) rfl ⟨Nat.le_of_ble_eq_true rfl, Nat.le_of_ble_eq_true rfl⟩ (Nat.le_of_ble_eq_true rfl) ⟨Nat.zero_le _, Nat.zero_le _⟩ rfl dX5_isStep_121 hR (fun r10 hr10 hR => ?_)
                refine xr_get C (kr_X1_fiberAt kp_5_0 hr10) fl_RX5_63 rfl dX5_isStep_124 ?_
                refine xr_icmp_gt (tgt := 147) C dX5_isStep_127 (by decide) hR (fun hR => ?_) (fun hR => ?_)
                · refine xr_iconst (v := 0) C dX5_isStep_147 (by decide) ?_
                  exact xr_zret C hr (Or.inl rfl) dX5_isStep_148 hR
                · refine xr_iload C dX5_isStep_130 rfl ?_
                  refine xr_iconst (v := 1) C dX5_isStep_132 (by decide) ?_
                  refine xr_icmp_lt (tgt := 147) C dX5_isStep_133 (by decide) hR (fun hR => ?_) (fun hR => ?_)
                  · refine xr_iconst (v := 0) C dX5_isStep_147 (by decide) ?_
                    exact xr_zret C hr (Or.inl rfl) dX5_isStep_148 hR
                  · refine xr_iload C dX5_isStep_136 rfl ?_
                    refine xr_bipush (v := 9) C dX5_isStep_138 (by decide) ?_
                    refine xr_icmp_gt (tgt := 147) C dX5_isStep_140 (by decide) hR (fun hR => ?_) (fun hR => ?_)
                    · refine xr_iconst (v := 0) C dX5_isStep_147 (by decide) ?_
                      exact xr_zret C hr (Or.inl rfl) dX5_isStep_148 hR
                    · refine xr_iconst (v := 1) C dX5_isStep_143 (by decide) ?_
                      refine xr_goto (tgt := 148) C dX5_isStep_144 (by decide) ?_
                      exact xr_zret C hr (Or.inr rfl) dX5_isStep_148 hR
            · have hx11n := hx11
              refine xo_if hR (fun hx12 hR => ?_) (fun hx12 hR => ?_)
              · refine xr_tabIn (off := 66) (tgt := 67) C dX5_isStep_1 (by rw [hx12]; decide) (by rw [hx12]; decide) (by rw [hx12]; decide) (by decide) ?_
                exact xr_sub (lv9 := [some (.ref (xg_ad G k0)), none, none, some (.int a3), none]) (And.intro rfl (And.intro rfl trivial)) (mbX5_isStep_b67 C hr  hk0  hR)
              · have hx12n := hx12
                refine xr_tabOut (tgt := 149) C dX5_isStep_1 (xo_tab7 hx3n hx5n hx6n hx7n hx9n hx11n hx12n) (by decide) ?_
                refine xr_iconst (v := 0) C dX5_isStep_149 (by decide) ?_
                exact xr_zret C hr (Or.inl rfl) dX5_isStep_150 hR
end
