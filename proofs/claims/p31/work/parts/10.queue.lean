section
def mX3_look (k0 : Nat) (a1 : Int32) (h : xw_M) : Option (xw_M × Int32) := (if a1 < 0 then some (h, (-1 : Int32)) else (if (h k0 1) ≤ a1 then some (h, (-1 : Int32)) else (if (8 : Int32) ≤ a1 then some (h, (-1 : Int32)) else if xo_ix a1 8 = true then some (h, (h (k0 + 1) (Int32.toNatClampNeg a1))) else none)))
set_option maxHeartbeats 4000000 in
set_option maxRecDepth 100000 in
theorem mcX3_look (l : Launch) (G : xw_G) {k0 : Nat} {a1 : Int32} (hk0 : xw_kd k0 = 3) {h : xw_M} {q : xw_M × Int32} (hR : mX3_look k0 a1 h = some q) : xc_M l G yX3_look cX3_look 2 (some .int) 0 0 [.ref (xg_ad G k0), .int a1] h q.1 (some (.int q.2)) := by
  refine xc_of (by decide +kernel) rfl (Nat.le_of_ble_eq_true rfl) ?_
  intro p e s m args below meth c C hr
  have C : xj_C p s m args meth c G RX3 cX3_look 2 := C
  show xj_X p l e { frames := 0, cells := 0, slots := 0, locals := 0 } s m args below meth c G 2 0 0 (MQ below (xw_Q G (some (.int q.2)) q.1) args s 0 0 (xg_A G)) h [some (.ref (xg_ad G k0)), some (.int a1)] 0 []
  unfold mX3_look at hR
  refine xr_iload_n C dX3_look_0 rfl ?_
  refine xr_if_lt (tgt := 30) C dX3_look_1 (by decide) hR (fun hR => ?_) (fun hR => ?_)
  · refine xr_iconst (v := (-1)) C dX3_look_30 (by decide) ?_
    exact xr_iret C hr dX3_look_31 hR
  · refine xr_iload_n C dX3_look_4 rfl ?_
    refine xr_aload_n C dX3_look_5 rfl ?_
    refine xr_get C hk0 fl_RX3_15 rfl dX3_look_6 ?_
    refine xr_icmp_ge (tgt := 30) C dX3_look_9 (by decide) hR (fun hR => ?_) (fun hR => ?_)
    · refine xr_iconst (v := (-1)) C dX3_look_30 (by decide) ?_
      exact xr_iret C hr dX3_look_31 hR
    · refine xr_iload_n C dX3_look_12 rfl ?_
      refine xr_aload_n C dX3_look_13 rfl ?_
      refine xr_get C hk0 fl_RX3_9 rfl dX3_look_14 ?_
      refine xr_alen (v := 8) C (kp_3_0 hk0) (xj_ltN C (kp_3_0 hk0) (by decide)) rfl (by decide) dX3_look_17 ?_
      refine xr_icmp_ge (tgt := 30) C dX3_look_18 (by decide) hR (fun hR => ?_) (fun hR => ?_)
      · refine xr_iconst (v := (-1)) C dX3_look_30 (by decide) ?_
        exact xr_iret C hr dX3_look_31 hR
      · refine xr_aload_n C dX3_look_21 rfl ?_
        refine xr_get C hk0 fl_RX3_9 rfl dX3_look_22 ?_
        refine xr_iload_n C dX3_look_25 rfl ?_
        refine xr_iald C (kp_3_0 hk0) (xj_ltN C (kp_3_0 hk0) (by decide)) rfl dX3_look_26 hR (fun hR => ?_)
        refine xr_goto (tgt := 31) C dX3_look_27 (by decide) ?_
        exact xr_iret C hr dX3_look_31 hR
end
section
def mX3_find_b2  (k0 : Nat) (a1 : Int32) : Nat → xw_M → Int32 → Option (xw_M × Int32)
  | 0, _, _ => none
  | n + 1, h, a2 => (if (h k0 1) ≤ a2 then some (h, (-1 : Int32)) else (if (8 : Int32) ≤ a2 then some (h, (-1 : Int32)) else if xo_ix a2 8 = true then (if (h (k0 + 1) (Int32.toNatClampNeg a2)) = a1 then some (h, a2) else mX3_find_b2  k0 a1 n h ((a2 + 1))) else none))
def mX3_find (k0 : Nat) (a1 : Int32) (h : xw_M) : Option (xw_M × Int32) := mX3_find_b2  (k0) (a1) xo_n h ((0 : Int32))
set_option maxHeartbeats 4000000 in
set_option maxRecDepth 100000 in
theorem mbX3_find_b2 {p : Program} {l : Launch} {e : Env} {s : State} {m : MethodId} {args : Array Value} {below : List Frame} {meth : Method} {c : Code} {G : xw_G} (C : xj_C p s m args meth c G RX3 cX3_find 3) (hr : meth.sig.returnType = (some .int)) {q : xw_M × Int32} {k0 : Nat} {a1 : Int32}  (hk0 : xw_kd k0 = 3) : ∀ (n : Nat) (h : xw_M) (a2 : Int32), mX3_find_b2  k0 a1 n h a2 = some q → xj_X p l e { frames := 0, cells := 0, slots := 0, locals := 0 } s m args below meth c G 3 0 0 (MQ below (xw_Q G (some (.int q.2)) q.1) args s 0 0 (xg_A G)) h [some (.ref (xg_ad G k0)), some (.int a1), some (.int a2)] 2 [] := by
  intro n
  induction n with
  | zero => intro h a2 hR; exact absurd (show (none : Option (xw_M × Int32)) = some q from hR) (fun z => by cases z)
  | succ n ih =>
    intro h a2 hR
    rw [mX3_find_b2.eq_2] at hR
    refine xr_iload_n C dX3_find_2 rfl ?_
    refine xr_aload_n C dX3_find_3 rfl ?_
    refine xr_get C hk0 fl_RX3_15 rfl dX3_find_4 ?_
    refine xr_icmp_ge (tgt := 37) C dX3_find_7 (by decide) hR (fun hR => ?_) (fun hR => ?_)
    · refine xr_iconst (v := (-1)) C dX3_find_37 (by decide) ?_
      exact xr_iret C hr dX3_find_38 hR
    · refine xr_iload_n C dX3_find_10 rfl ?_
      refine xr_aload_n C dX3_find_11 rfl ?_
      refine xr_get C hk0 fl_RX3_9 rfl dX3_find_12 ?_
      refine xr_alen (v := 8) C (kp_3_0 hk0) (xj_ltN C (kp_3_0 hk0) (by decide)) rfl (by decide) dX3_find_15 ?_
      refine xr_icmp_ge (tgt := 37) C dX3_find_16 (by decide) hR (fun hR => ?_) (fun hR => ?_)
      · refine xr_iconst (v := (-1)) C dX3_find_37 (by decide) ?_
        exact xr_iret C hr dX3_find_38 hR
      · refine xr_aload_n C dX3_find_19 rfl ?_
        refine xr_get C hk0 fl_RX3_9 rfl dX3_find_20 ?_
        refine xr_iload_n C dX3_find_23 rfl ?_
        refine xr_iald C (kp_3_0 hk0) (xj_ltN C (kp_3_0 hk0) (by decide)) rfl dX3_find_24 hR (fun hR => ?_)
        refine xr_iload_n C dX3_find_25 rfl ?_
        refine xr_icmp_ne (tgt := 31) C dX3_find_26 (by decide) hR (fun hR => ?_) (fun hR => ?_)
        · refine xr_iinc (v := 1) C dX3_find_31 rfl (by decide) rfl (by decide) ?_
          refine xr_goto (tgt := 2) C dX3_find_34 (by decide) ?_
          exact xr_sub (lv9 := [some (.ref (xg_ad G k0)), some (.int a1), some (.int (a2 + 1))]) (And.intro rfl (And.intro rfl (And.intro rfl trivial))) (ih _ _  hR)
        · refine xr_iload_n C dX3_find_29 rfl ?_
          exact xr_iret C hr dX3_find_30 hR
set_option maxHeartbeats 4000000 in
set_option maxRecDepth 100000 in
theorem mcX3_find (l : Launch) (G : xw_G) {k0 : Nat} {a1 : Int32} (hk0 : xw_kd k0 = 3) {h : xw_M} {q : xw_M × Int32} (hR : mX3_find k0 a1 h = some q) : xc_M l G yX3_find cX3_find 3 (some .int) 0 0 [.ref (xg_ad G k0), .int a1] h q.1 (some (.int q.2)) := by
  refine xc_of (by decide +kernel) rfl (Nat.le_of_ble_eq_true rfl) ?_
  intro p e s m args below meth c C hr
  have C : xj_C p s m args meth c G RX3 cX3_find 3 := C
  show xj_X p l e { frames := 0, cells := 0, slots := 0, locals := 0 } s m args below meth c G 3 0 0 (MQ below (xw_Q G (some (.int q.2)) q.1) args s 0 0 (xg_A G)) h [some (.ref (xg_ad G k0)), some (.int a1), none] 0 []
  unfold mX3_find at hR
  refine xr_iconst (v := 0) C dX3_find_0 (by decide) ?_
  refine xr_istore_n C dX3_find_1 rfl (by decide) ?_
  exact xr_sub (lv9 := [some (.ref (xg_ad G k0)), some (.int a1), some (.int (0 : Int32))]) (And.intro rfl (And.intro rfl (And.intro rfl trivial))) (mbX3_find_b2 C hr  hk0 _ _ _  hR)
end
section
def mX3_addLast (k0 : Nat) (a1 : Int32) (h : xw_M) : Option (xw_M × Unit) := (if (h k0 1) < 0 then some (h, ()) else (if (8 : Int32) ≤ (h k0 1) then some (h, ()) else if xo_ix (h k0 1) 8 = true then (xo_let (xw_st h (k0 + 1) (Int32.toNatClampNeg (h k0 1)) a1) fun h1 => xo_let (xw_st h1 k0 1 ((h1 k0 1) + (1 : Int32))) fun h2 => some (h2, ())) else none))
set_option maxHeartbeats 4000000 in
set_option maxRecDepth 100000 in
theorem mcX3_addLast (l : Launch) (G : xw_G) {k0 : Nat} {a1 : Int32} (hk0 : xw_kd k0 = 3) {h : xw_M} {q : xw_M × Unit} (hR : mX3_addLast k0 a1 h = some q) : xc_M l G yX3_addLast cX3_addLast 2 none 0 0 [.ref (xg_ad G k0), .int a1] h q.1 none := by
  refine xc_of (by decide +kernel) rfl (Nat.le_of_ble_eq_true rfl) ?_
  intro p e s m args below meth c C hr
  have C : xj_C p s m args meth c G RX3 cX3_addLast 2 := C
  show xj_X p l e { frames := 0, cells := 0, slots := 0, locals := 0 } s m args below meth c G 2 0 0 (MQ below (xw_Q G none q.1) args s 0 0 (xg_A G)) h [some (.ref (xg_ad G k0)), some (.int a1)] 0 []
  unfold mX3_addLast at hR
  refine xr_aload_n C dX3_addLast_0 rfl ?_
  refine xr_get C hk0 fl_RX3_15 rfl dX3_addLast_1 ?_
  refine xr_if_lt (tgt := 39) C dX3_addLast_4 (by decide) hR (fun hR => ?_) (fun hR => ?_)
  · exact xr_vret C hr dX3_addLast_39 hR
  · refine xr_aload_n C dX3_addLast_7 rfl ?_
    refine xr_get C hk0 fl_RX3_15 rfl dX3_addLast_8 ?_
    refine xr_aload_n C dX3_addLast_11 rfl ?_
    refine xr_get C hk0 fl_RX3_9 rfl dX3_addLast_12 ?_
    refine xr_alen (v := 8) C (kp_3_0 hk0) (xj_ltN C (kp_3_0 hk0) (by decide)) rfl (by decide) dX3_addLast_15 ?_
    refine xr_icmp_ge (tgt := 39) C dX3_addLast_16 (by decide) hR (fun hR => ?_) (fun hR => ?_)
    · exact xr_vret C hr dX3_addLast_39 hR
    · refine xr_aload_n C dX3_addLast_19 rfl ?_
      refine xr_get C hk0 fl_RX3_9 rfl dX3_addLast_20 ?_
      refine xr_aload_n C dX3_addLast_23 rfl ?_
      refine xr_get C hk0 fl_RX3_15 rfl dX3_addLast_24 ?_
      refine xr_iload_n C dX3_addLast_27 rfl ?_
      refine xr_iastL C (kp_3_0 hk0) (xj_ltN C (kp_3_0 hk0) (by decide)) rfl dX3_addLast_28 hR (fun h1 hR => ?_)
      refine xr_aload_n C dX3_addLast_29 rfl ?_
      refine xr_dup C dX3_addLast_30 rfl ?_
      refine xr_get C hk0 fl_RX3_15 rfl dX3_addLast_31 ?_
      refine xr_iconst (v := 1) C dX3_addLast_34 (by decide) ?_
      refine xr_iadd C dX3_addLast_35 ?_
      refine xr_putL C hk0 fl_RX3_15 pf_3_1 dX3_addLast_36 hR (fun h2 hR => ?_)
      exact xr_vret C hr dX3_addLast_39 hR
end
section
def mX3_takeFirst_b63  (k0 : Nat) (a1 : Int32) (h : xw_M)  : Option (xw_M × Int32) := xo_let (xw_st h k0 1 ((h k0 1) - (1 : Int32))) fun h1 => some (h1, a1)
def mX3_takeFirst_b26  (k0 : Nat) (a1 : Int32) : Nat → xw_M → Int32 → Option (xw_M × Int32)
  | 0, _, _ => none
  | n + 1, h, a2 => (if (h k0 1) ≤ a2 then mX3_takeFirst_b63  (k0) (a1) h  else (if (8 : Int32) ≤ a2 then mX3_takeFirst_b63  (k0) (a1) h  else if xo_ix a2 8 = true then if xo_ix (a2 - (1 : Int32)) 8 = true then (xo_let (xw_st h (k0 + 1) (Int32.toNatClampNeg (a2 - (1 : Int32))) (h (k0 + 1) (Int32.toNatClampNeg a2))) fun h2 => mX3_takeFirst_b26  k0 a1 n h2 ((a2 + 1))) else none else none))
def mX3_takeFirst (k0 : Nat) (h : xw_M) : Option (xw_M × Int32) := (if (h k0 1) ≤ 0 then some (h, (-1 : Int32)) else (if (8 : Int32) = 0 then some (h, (-1 : Int32)) else mX3_takeFirst_b26  (k0) ((h (k0 + 1) (Int32.toNatClampNeg (0 : Int32)))) xo_n h ((1 : Int32))))
set_option maxHeartbeats 4000000 in
set_option maxRecDepth 100000 in
theorem mbX3_takeFirst_b63 {p : Program} {l : Launch} {e : Env} {s : State} {m : MethodId} {args : Array Value} {below : List Frame} {meth : Method} {c : Code} {G : xw_G} (C : xj_C p s m args meth c G RX3 cX3_takeFirst 3) (hr : meth.sig.returnType = (some .int)) {q : xw_M × Int32} {k0 : Nat} {a1 : Int32}  (hk0 : xw_kd k0 = 3) {h : xw_M}   (hR : mX3_takeFirst_b63  k0 a1 h  = some q) : xj_X p l e { frames := 0, cells := 0, slots := 0, locals := 0 } s m args below meth c G 3 0 0 (MQ below (xw_Q G (some (.int q.2)) q.1) args s 0 0 (xg_A G)) h [some (.ref (xg_ad G k0)), some (.int a1), none] 63 [] := by
  unfold mX3_takeFirst_b63 at hR
  refine xr_aload_n C dX3_takeFirst_63 rfl ?_
  refine xr_dup C dX3_takeFirst_64 rfl ?_
  refine xr_get C hk0 fl_RX3_15 rfl dX3_takeFirst_65 ?_
  refine xr_iconst (v := 1) C dX3_takeFirst_68 (by decide) ?_
  refine xr_isub C dX3_takeFirst_69 ?_
  refine xr_putL C hk0 fl_RX3_15 pf_3_1 dX3_takeFirst_70 hR (fun h1 hR => ?_)
  refine xr_iload_n C dX3_takeFirst_73 rfl ?_
  exact xr_iret C hr dX3_takeFirst_74 hR
set_option maxHeartbeats 4000000 in
set_option maxRecDepth 100000 in
theorem mbX3_takeFirst_b26 {p : Program} {l : Launch} {e : Env} {s : State} {m : MethodId} {args : Array Value} {below : List Frame} {meth : Method} {c : Code} {G : xw_G} (C : xj_C p s m args meth c G RX3 cX3_takeFirst 3) (hr : meth.sig.returnType = (some .int)) {q : xw_M × Int32} {k0 : Nat} {a1 : Int32}  (hk0 : xw_kd k0 = 3) : ∀ (n : Nat) (h : xw_M) (a2 : Int32), mX3_takeFirst_b26  k0 a1 n h a2 = some q → xj_X p l e { frames := 0, cells := 0, slots := 0, locals := 0 } s m args below meth c G 3 0 0 (MQ below (xw_Q G (some (.int q.2)) q.1) args s 0 0 (xg_A G)) h [some (.ref (xg_ad G k0)), some (.int a1), some (.int a2)] 26 [] := by
  intro n
  induction n with
  | zero => intro h a2 hR; exact absurd (show (none : Option (xw_M × Int32)) = some q from hR) (fun z => by cases z)
  | succ n ih =>
    intro h a2 hR
    rw [mX3_takeFirst_b26.eq_2] at hR
    refine xr_iload_n C dX3_takeFirst_26 rfl ?_
    refine xr_aload_n C dX3_takeFirst_27 rfl ?_
    refine xr_get C hk0 fl_RX3_15 rfl dX3_takeFirst_28 ?_
    refine xr_icmp_ge (tgt := 63) C dX3_takeFirst_31 (by decide) hR (fun hR => ?_) (fun hR => ?_)
    · exact xr_sub (lv9 := [some (.ref (xg_ad G k0)), some (.int a1), none]) (And.intro rfl (And.intro rfl trivial)) (mbX3_takeFirst_b63 C hr  hk0  hR)
    · refine xr_iload_n C dX3_takeFirst_34 rfl ?_
      refine xr_aload_n C dX3_takeFirst_35 rfl ?_
      refine xr_get C hk0 fl_RX3_9 rfl dX3_takeFirst_36 ?_
      refine xr_alen (v := 8) C (kp_3_0 hk0) (xj_ltN C (kp_3_0 hk0) (by decide)) rfl (by decide) dX3_takeFirst_39 ?_
      refine xr_icmp_ge (tgt := 63) C dX3_takeFirst_40 (by decide) hR (fun hR => ?_) (fun hR => ?_)
      · exact xr_sub (lv9 := [some (.ref (xg_ad G k0)), some (.int a1), none]) (And.intro rfl (And.intro rfl trivial)) (mbX3_takeFirst_b63 C hr  hk0  hR)
      · refine xr_aload_n C dX3_takeFirst_43 rfl ?_
        refine xr_get C hk0 fl_RX3_9 rfl dX3_takeFirst_44 ?_
        refine xr_iload_n C dX3_takeFirst_47 rfl ?_
        refine xr_iconst (v := 1) C dX3_takeFirst_48 (by decide) ?_
        refine xr_isub C dX3_takeFirst_49 ?_
        refine xr_aload_n C dX3_takeFirst_50 rfl ?_
        refine xr_get C hk0 fl_RX3_9 rfl dX3_takeFirst_51 ?_
        refine xr_iload_n C dX3_takeFirst_54 rfl ?_
        refine xr_iald C (kp_3_0 hk0) (xj_ltN C (kp_3_0 hk0) (by decide)) rfl dX3_takeFirst_55 hR (fun hR => ?_)
        refine xr_iastL C (kp_3_0 hk0) (xj_ltN C (kp_3_0 hk0) (by decide)) rfl dX3_takeFirst_56 hR (fun h2 hR => ?_)
        refine xr_iinc (v := 1) C dX3_takeFirst_57 rfl (by decide) rfl (by decide) ?_
        refine xr_goto (tgt := 26) C dX3_takeFirst_60 (by decide) ?_
        exact xr_sub (lv9 := [some (.ref (xg_ad G k0)), some (.int a1), some (.int (a2 + 1))]) (And.intro rfl (And.intro rfl (And.intro rfl trivial))) (ih _ _  hR)
set_option maxHeartbeats 4000000 in
set_option maxRecDepth 100000 in
theorem mcX3_takeFirst (l : Launch) (G : xw_G) {k0 : Nat} (hk0 : xw_kd k0 = 3) {h : xw_M} {q : xw_M × Int32} (hR : mX3_takeFirst k0 h = some q) : xc_M l G yX3_takeFirst cX3_takeFirst 3 (some .int) 0 0 [.ref (xg_ad G k0)] h q.1 (some (.int q.2)) := by
  refine xc_of (by decide +kernel) rfl (Nat.le_of_ble_eq_true rfl) ?_
  intro p e s m args below meth c C hr
  have C : xj_C p s m args meth c G RX3 cX3_takeFirst 3 := C
  show xj_X p l e { frames := 0, cells := 0, slots := 0, locals := 0 } s m args below meth c G 3 0 0 (MQ below (xw_Q G (some (.int q.2)) q.1) args s 0 0 (xg_A G)) h [some (.ref (xg_ad G k0)), none, none] 0 []
  unfold mX3_takeFirst at hR
  refine xr_aload_n C dX3_takeFirst_0 rfl ?_
  refine xr_get C hk0 fl_RX3_15 rfl dX3_takeFirst_1 ?_
  refine xr_if_le (tgt := 15) C dX3_takeFirst_4 (by decide) hR (fun hR => ?_) (fun hR => ?_)
  · refine xr_iconst (v := (-1)) C dX3_takeFirst_15 (by decide) ?_
    exact xr_iret C hr dX3_takeFirst_16 hR
  · refine xr_aload_n C dX3_takeFirst_7 rfl ?_
    refine xr_get C hk0 fl_RX3_9 rfl dX3_takeFirst_8 ?_
    refine xr_alen (v := 8) C (kp_3_0 hk0) (xj_ltN C (kp_3_0 hk0) (by decide)) rfl (by decide) dX3_takeFirst_11 ?_
    refine xr_if_ne (tgt := 17) C dX3_takeFirst_12 (by decide) hR (fun hR => ?_) (fun hR => ?_)
    · refine xr_aload_n C dX3_takeFirst_17 rfl ?_
      refine xr_get C hk0 fl_RX3_9 rfl dX3_takeFirst_18 ?_
      refine xr_iconst (v := 0) C dX3_takeFirst_21 (by decide) ?_
      refine xr_ialdC C (kp_3_0 hk0) (xj_ltN C (kp_3_0 hk0) (by decide)) rfl (by decide) dX3_takeFirst_22 ?_
      refine xr_istore_n C dX3_takeFirst_23 rfl (by decide) ?_
      refine xr_iconst (v := 1) C dX3_takeFirst_24 (by decide) ?_
      refine xr_istore_n C dX3_takeFirst_25 rfl (by decide) ?_
      exact xr_sub (lv9 := [some (.ref (xg_ad G k0)), some (.int (h (k0 + 1) (Int32.toNatClampNeg (0 : Int32)))), some (.int (1 : Int32))]) (And.intro rfl (And.intro rfl (And.intro rfl trivial))) (mbX3_takeFirst_b26 C hr  hk0 _ _ _  hR)
    · refine xr_iconst (v := (-1)) C dX3_takeFirst_15 (by decide) ?_
      exact xr_iret C hr dX3_takeFirst_16 hR
end
section
def mX3_becomeLike_b10  (k0 : Nat) (k1 : Nat) : Nat → xw_M → Int32 → Option (xw_M × Unit)
  | 0, _, _ => none
  | n + 1, h, a2 => (if (8 : Int32) ≤ a2 then some (h, ()) else (mX3_look k1 a2 h).bind fun r2 => if xo_ix a2 8 = true then (xo_let (xw_st r2.1 (k0 + 1) (Int32.toNatClampNeg a2) r2.2) fun h3 => mX3_becomeLike_b10  k0 k1 n h3 ((a2 + 1))) else none)
def mX3_becomeLike (k0 : Nat) (k1 : Nat) (h : xw_M) : Option (xw_M × Unit) := xo_let (xw_st h k0 1 (h k1 1)) fun h1 => mX3_becomeLike_b10  (k0) (k1) xo_n h1 ((0 : Int32))
set_option maxHeartbeats 4000000 in
set_option maxRecDepth 100000 in
theorem mbX3_becomeLike_b10 {p : Program} {l : Launch} {e : Env} {s : State} {m : MethodId} {args : Array Value} {below : List Frame} {meth : Method} {c : Code} {G : xw_G} (C : xj_C p s m args meth c G RX3 cX3_becomeLike 3) (hr : meth.sig.returnType = none) {q : xw_M × Unit} {k0 : Nat} {k1 : Nat}  (hk0 : xw_kd k0 = 3) (hk1 : xw_kd k1 = 3) : ∀ (n : Nat) (h : xw_M) (a2 : Int32), mX3_becomeLike_b10  k0 k1 n h a2 = some q → xj_X p l e { frames := 1, cells := 0, slots := 0, locals := 21 } s m args below meth c G 3 0 0 (MQ below (xw_Q G none q.1) args s 0 0 (xg_A G)) h [some (.ref (xg_ad G k0)), some (.ref (xg_ad G k1)), some (.int a2)] 10 [] := by
  intro n
  induction n with
  | zero => intro h a2 hR; exact absurd (show (none : Option (xw_M × Unit)) = some q from hR) (fun z => by cases z)
  | succ n ih =>
    intro h a2 hR
    rw [mX3_becomeLike_b10.eq_2] at hR
    refine xr_iload_n C dX3_becomeLike_10 rfl ?_
    refine xr_aload_n C dX3_becomeLike_11 rfl ?_
    refine xr_get C hk0 fl_RX3_9 rfl dX3_becomeLike_12 ?_
    refine xr_alen (v := 8) C (kp_3_0 hk0) (xj_ltN C (kp_3_0 hk0) (by decide)) rfl (by decide) dX3_becomeLike_15 ?_
    refine xr_icmp_ge (tgt := 36) C dX3_becomeLike_16 (by decide) hR (fun hR => ?_) (fun hR => ?_)
    · exact xr_vret C hr dX3_becomeLike_36 hR
    · refine xr_aload_n C dX3_becomeLike_19 rfl ?_
      refine xr_get C hk0 fl_RX3_9 rfl dX3_becomeLike_20 ?_
      refine xr_iload_n C dX3_becomeLike_23 rfl ?_
      refine xr_aload_n C dX3_becomeLike_24 rfl ?_
      refine xr_iload_n C dX3_becomeLike_25 rfl ?_
      refine xr_callVi C (st := [.int a2, .ref (xg_ad G (k0 + 1))]) [.int a2] cv_RX3_19 hk1 (fun _ zz9 => mcX3_look l G hk1 zz9) rfl ⟨Nat.le_of_ble_eq_true rfl, Nat.le_of_ble_eq_true rfl⟩ (Nat.le_of_ble_eq_true rfl) ⟨Nat.zero_le _, Nat.zero_le _⟩ rfl dX3_becomeLike_26 hR (fun r2 hr2 hR => ?_)
      refine xr_iastL C (kp_3_0 hk0) (xj_ltN C (kp_3_0 hk0) (by decide)) rfl dX3_becomeLike_29 hR (fun h3 hR => ?_)
      refine xr_iinc (v := 1) C dX3_becomeLike_30 rfl (by decide) rfl (by decide) ?_
      refine xr_goto (tgt := 10) C dX3_becomeLike_33 (by decide) ?_
      exact xr_sub (lv9 := [some (.ref (xg_ad G k0)), some (.ref (xg_ad G k1)), some (.int (a2 + 1))]) (And.intro rfl (And.intro rfl (And.intro rfl trivial))) (ih _ _  hR)
set_option maxHeartbeats 4000000 in
set_option maxRecDepth 100000 in
theorem mcX3_becomeLike (l : Launch) (G : xw_G) {k0 : Nat} {k1 : Nat} (hk0 : xw_kd k0 = 3) (hk1 : xw_kd k1 = 3) {h : xw_M} {q : xw_M × Unit} (hR : mX3_becomeLike k0 k1 h = some q) : xc_M l G yX3_becomeLike cX3_becomeLike 3 none 1 21 [.ref (xg_ad G k0), .ref (xg_ad G k1)] h q.1 none := by
  refine xc_of (by decide +kernel) rfl (Nat.le_of_ble_eq_true rfl) ?_
  intro p e s m args below meth c C hr
  have C : xj_C p s m args meth c G RX3 cX3_becomeLike 3 := C
  show xj_X p l e { frames := 1, cells := 0, slots := 0, locals := 21 } s m args below meth c G 3 0 0 (MQ below (xw_Q G none q.1) args s 0 0 (xg_A G)) h [some (.ref (xg_ad G k0)), some (.ref (xg_ad G k1)), none] 0 []
  unfold mX3_becomeLike at hR
  refine xr_aload_n C dX3_becomeLike_0 rfl ?_
  refine xr_aload_n C dX3_becomeLike_1 rfl ?_
  refine xr_get C hk1 fl_RX3_15 rfl dX3_becomeLike_2 ?_
  refine xr_putL C hk0 fl_RX3_15 pf_3_1 dX3_becomeLike_5 hR (fun h1 hR => ?_)
  refine xr_iconst (v := 0) C dX3_becomeLike_8 (by decide) ?_
  refine xr_istore_n C dX3_becomeLike_9 rfl (by decide) ?_
  exact xr_sub (lv9 := [some (.ref (xg_ad G k0)), some (.ref (xg_ad G k1)), some (.int (0 : Int32))]) (And.intro rfl (And.intro rfl (And.intro rfl trivial))) (mbX3_becomeLike_b10 C hr  hk0 hk1 _ _ _  hR)
end
section
def mX4_describe (k0 : Nat) (a1 : Int32) (a2 : Int32) (a3 : Int32) (h : xw_M) : Option (xw_M × Unit) := xo_let (xw_st h k0 0 a1) fun h1 => xo_let (xw_st h1 k0 1 a2) fun h2 => xo_let (xw_st h2 k0 2 a3) fun h3 => some (h3, ())
set_option maxHeartbeats 4000000 in
set_option maxRecDepth 100000 in
theorem mcX4_describe (l : Launch) (G : xw_G) {k0 : Nat} {a1 : Int32} {a2 : Int32} {a3 : Int32} (hk0 : xw_kd k0 = 4) {h : xw_M} {q : xw_M × Unit} (hR : mX4_describe k0 a1 a2 a3 h = some q) : xc_M l G yX4_describe cX4_describe 4 none 0 0 [.ref (xg_ad G k0), .int a1, .int a2, .int a3] h q.1 none := by
  refine xc_of (by decide +kernel) rfl (Nat.le_of_ble_eq_true rfl) ?_
  intro p e s m args below meth c C hr
  have C : xj_C p s m args meth c G RX4 cX4_describe 4 := C
  show xj_X p l e { frames := 0, cells := 0, slots := 0, locals := 0 } s m args below meth c G 4 0 0 (MQ below (xw_Q G none q.1) args s 0 0 (xg_A G)) h [some (.ref (xg_ad G k0)), some (.int a1), some (.int a2), some (.int a3)] 0 []
  unfold mX4_describe at hR
  refine xr_aload_n C dX4_describe_0 rfl ?_
  refine xr_iload_n C dX4_describe_1 rfl ?_
  refine xr_putL C hk0 fl_RX4_9 pf_4_0 dX4_describe_2 hR (fun h1 hR => ?_)
  refine xr_aload_n C dX4_describe_5 rfl ?_
  refine xr_iload_n C dX4_describe_6 rfl ?_
  refine xr_putL C hk0 fl_RX4_15 pf_4_1 dX4_describe_7 hR (fun h2 hR => ?_)
  refine xr_aload_n C dX4_describe_10 rfl ?_
  refine xr_iload_n C dX4_describe_11 rfl ?_
  refine xr_putL C hk0 fl_RX4_18 pf_4_2 dX4_describe_12 hR (fun h3 hR => ?_)
  exact xr_vret C hr dX4_describe_15 hR
end
section
def mX4_becomeLike (k0 : Nat) (k1 : Nat) (h : xw_M) : Option (xw_M × Unit) := xo_let (xw_st h k0 0 (h k1 0)) fun h1 => xo_let (xw_st h1 k0 1 (h1 k1 1)) fun h2 => xo_let (xw_st h2 k0 2 (h2 k1 2)) fun h3 => xo_let (xw_st h3 k0 3 (h3 k1 3)) fun h4 => some (h4, ())
set_option maxHeartbeats 4000000 in
set_option maxRecDepth 100000 in
theorem mcX4_becomeLike (l : Launch) (G : xw_G) {k0 : Nat} {k1 : Nat} (hk0 : xw_kd k0 = 4) (hk1 : xw_kd k1 = 4) {h : xw_M} {q : xw_M × Unit} (hR : mX4_becomeLike k0 k1 h = some q) : xc_M l G yX4_becomeLike cX4_becomeLike 2 none 0 0 [.ref (xg_ad G k0), .ref (xg_ad G k1)] h q.1 none := by
  refine xc_of (by decide +kernel) rfl (Nat.le_of_ble_eq_true rfl) ?_
  intro p e s m args below meth c C hr
  have C : xj_C p s m args meth c G RX4 cX4_becomeLike 2 := C
  show xj_X p l e { frames := 0, cells := 0, slots := 0, locals := 0 } s m args below meth c G 2 0 0 (MQ below (xw_Q G none q.1) args s 0 0 (xg_A G)) h [some (.ref (xg_ad G k0)), some (.ref (xg_ad G k1))] 0 []
  unfold mX4_becomeLike at hR
  refine xr_aload_n C dX4_becomeLike_0 rfl ?_
  refine xr_aload_n C dX4_becomeLike_1 rfl ?_
  refine xr_get C hk1 fl_RX4_9 rfl dX4_becomeLike_2 ?_
  refine xr_putL C hk0 fl_RX4_9 pf_4_0 dX4_becomeLike_5 hR (fun h1 hR => ?_)
  refine xr_aload_n C dX4_becomeLike_8 rfl ?_
  refine xr_aload_n C dX4_becomeLike_9 rfl ?_
  refine xr_get C hk1 fl_RX4_15 rfl dX4_becomeLike_10 ?_
  refine xr_putL C hk0 fl_RX4_15 pf_4_1 dX4_becomeLike_13 hR (fun h2 hR => ?_)
  refine xr_aload_n C dX4_becomeLike_16 rfl ?_
  refine xr_aload_n C dX4_becomeLike_17 rfl ?_
  refine xr_get C hk1 fl_RX4_18 rfl dX4_becomeLike_18 ?_
  refine xr_putL C hk0 fl_RX4_18 pf_4_2 dX4_becomeLike_21 hR (fun h3 hR => ?_)
  refine xr_aload_n C dX4_becomeLike_24 rfl ?_
  refine xr_aload_n C dX4_becomeLike_25 rfl ?_
  refine xr_get C hk1 fl_RX4_21 rfl dX4_becomeLike_26 ?_
  refine xr_putL C hk0 fl_RX4_21 pf_4_3 dX4_becomeLike_29 hR (fun h4 hR => ?_)
  exact xr_vret C hr dX4_becomeLike_32 hR
end
section
def mX0_hasRoom (k0 : Nat) (h : xw_M) : Option (xw_M × Int32) := (if (h k0 0) ≤ (h (k0 + 1) 1) then some (h, (0 : Int32)) else some (h, (1 : Int32)))
set_option maxHeartbeats 4000000 in
set_option maxRecDepth 100000 in
theorem mcX0_hasRoom (l : Launch) (G : xw_G) {k0 : Nat} (hk0 : xw_kd k0 = 0) {h : xw_M} {q : xw_M × Int32} (hR : mX0_hasRoom k0 h = some q) : xc_M l G yX0_hasRoom cX0_hasRoom 1 (some .boolean) 0 0 [.ref (xg_ad G k0)] h q.1 (some (.int q.2)) := by
  refine xc_of (by decide +kernel) rfl (Nat.le_of_ble_eq_true rfl) ?_
  intro p e s m args below meth c C hr
  have C : xj_C p s m args meth c G RX0 cX0_hasRoom 1 := C
  show xj_X p l e { frames := 0, cells := 0, slots := 0, locals := 0 } s m args below meth c G 1 0 0 (MQ below (xw_Q G (some (.int q.2)) q.1) args s 0 0 (xg_A G)) h [some (.ref (xg_ad G k0))] 0 []
  unfold mX0_hasRoom at hR
  refine xr_aload_n C dX0_hasRoom_0 rfl ?_
  refine xr_get C hk0 fl_RX0_10 rfl dX0_hasRoom_1 ?_
  refine xr_get C (kp_0_1 hk0) fl_RX0_22 rfl dX0_hasRoom_4 ?_
  refine xr_aload_n C dX0_hasRoom_7 rfl ?_
  refine xr_get C hk0 fl_RX0_26 rfl dX0_hasRoom_8 ?_
  refine xr_icmp_ge (tgt := 18) C dX0_hasRoom_11 (by decide) hR (fun hR => ?_) (fun hR => ?_)
  · refine xr_iconst (v := 0) C dX0_hasRoom_18 (by decide) ?_
    exact xr_zret C hr (Or.inl rfl) dX0_hasRoom_19 hR
  · refine xr_iconst (v := 1) C dX0_hasRoom_14 (by decide) ?_
    refine xr_goto (tgt := 19) C dX0_hasRoom_15 (by decide) ?_
    exact xr_zret C hr (Or.inr rfl) dX0_hasRoom_19 hR
end
section
def mX0_becomeLike (k0 : Nat) (k1 : Nat) (h : xw_M) : Option (xw_M × Unit) := xo_let (xw_st h k0 0 (h k1 0)) fun h1 => (mX3_becomeLike (k0 + 1) (k1 + 1) h1).bind fun r2 => (mX3_becomeLike (k0 + 3) (k1 + 3) r2.1).bind fun r3 => (mX3_becomeLike (k0 + 5) (k1 + 5) r3.1).bind fun r4 => some (r4.1, ())
set_option maxHeartbeats 4000000 in
set_option maxRecDepth 100000 in
theorem mcX0_becomeLike (l : Launch) (G : xw_G) {k0 : Nat} {k1 : Nat} (hk0 : xw_kd k0 = 0) (hk1 : xw_kd k1 = 0) {h : xw_M} {q : xw_M × Unit} (hR : mX0_becomeLike k0 k1 h = some q) : xc_M l G yX0_becomeLike cX0_becomeLike 2 none 2 43 [.ref (xg_ad G k0), .ref (xg_ad G k1)] h q.1 none := by
  refine xc_of (by decide +kernel) rfl (Nat.le_of_ble_eq_true rfl) ?_
  intro p e s m args below meth c C hr
  have C : xj_C p s m args meth c G RX0 cX0_becomeLike 2 := C
  show xj_X p l e { frames := 2, cells := 0, slots := 0, locals := 43 } s m args below meth c G 2 0 0 (MQ below (xw_Q G none q.1) args s 0 0 (xg_A G)) h [some (.ref (xg_ad G k0)), some (.ref (xg_ad G k1))] 0 []
  unfold mX0_becomeLike at hR
  refine xr_aload_n C dX0_becomeLike_0 rfl ?_
  refine xr_aload_n C dX0_becomeLike_1 rfl ?_
  refine xr_get C hk1 fl_RX0_26 rfl dX0_becomeLike_2 ?_
  refine xr_putL C hk0 fl_RX0_26 pf_0_0 dX0_becomeLike_5 hR (fun h1 hR => ?_)
  refine xr_aload_n C dX0_becomeLike_8 rfl ?_
  refine xr_get C hk0 fl_RX0_10 rfl dX0_becomeLike_9 ?_
  refine xr_aload_n C dX0_becomeLike_12 rfl ?_
  refine xr_get C hk1 fl_RX0_10 rfl dX0_becomeLike_13 ?_
  refine xr_callVv C (st := []) [.ref (xg_ad G (k1 + 1))] cv_RX0_29 (kp_0_1 hk0) (fun _ zz9 => mcX3_becomeLike l G (kp_0_1 hk0) (kp_0_1 hk1) zz9) rfl ⟨Nat.le_of_ble_eq_true rfl, Nat.le_of_ble_eq_true rfl⟩ (Nat.le_of_ble_eq_true rfl) ⟨Nat.zero_le _, Nat.zero_le _⟩ rfl dX0_becomeLike_16 hR (fun r2 hr2 hR => ?_)
  refine xr_aload_n C dX0_becomeLike_19 rfl ?_
  refine xr_get C hk0 fl_RX0_16 rfl dX0_becomeLike_20 ?_
  refine xr_aload_n C dX0_becomeLike_23 rfl ?_
  refine xr_get C hk1 fl_RX0_16 rfl dX0_becomeLike_24 ?_
  refine xr_callVv C (st := []) [.ref (xg_ad G (k1 + 3))] cv_RX0_29 (kp_0_2 hk0) (fun _ zz9 => mcX3_becomeLike l G (kp_0_2 hk0) (kp_0_2 hk1) zz9) rfl ⟨Nat.le_of_ble_eq_true rfl, Nat.le_of_ble_eq_true rfl⟩ (Nat.le_of_ble_eq_true rfl) ⟨Nat.zero_le _, Nat.zero_le _⟩ rfl dX0_becomeLike_27 hR (fun r3 hr3 hR => ?_)
  refine xr_aload_n C dX0_becomeLike_30 rfl ?_
  refine xr_get C hk0 fl_RX0_19 rfl dX0_becomeLike_31 ?_
  refine xr_aload_n C dX0_becomeLike_34 rfl ?_
  refine xr_get C hk1 fl_RX0_19 rfl dX0_becomeLike_35 ?_
  refine xr_callVv C (st := []) [.ref (xg_ad G (k1 + 5))] cv_RX0_29 (kp_0_3 hk0) (fun _ zz9 => mcX3_becomeLike l G (kp_0_3 hk0) (kp_0_3 hk1) zz9) rfl ⟨Nat.le_of_ble_eq_true rfl, Nat.le_of_ble_eq_true rfl⟩ (Nat.le_of_ble_eq_true rfl) ⟨Nat.zero_le _, Nat.zero_le _⟩ rfl dX0_becomeLike_38 hR (fun r4 hr4 hR => ?_)
  exact xr_vret C hr dX0_becomeLike_41 hR
end
section
def mX2_stepAt (k0 : Nat) (a1 : Int32) (h : xw_M) : Option (xw_M × Nat) := (if a1 < 0 then some (h, (k0 + 14)) else (if a1 < (12 : Int32) then if xo_ix a1 12 = true then some (h, (xw_el 10 (k0 + 1) (Int32.toNatClampNeg a1))) else none else some (h, (k0 + 14))))
set_option maxHeartbeats 4000000 in
set_option maxRecDepth 100000 in
theorem mcX2_stepAt (l : Launch) (G : xw_G) {k0 : Nat} {a1 : Int32} (hk0 : xw_kd k0 = 2) {h : xw_M} {q : xw_M × Nat} (hR : mX2_stepAt k0 a1 h = some q) : xc_M l G yX2_stepAt cX2_stepAt 3 (some (.object "WaterFibers$Step")) 0 0 [.ref (xg_ad G k0), .int a1] h q.1 (some (.ref (xg_ad G q.2))) := by
  refine xc_of (by decide +kernel) rfl (Nat.le_of_ble_eq_true rfl) ?_
  intro p e s m args below meth c C hr
  have C : xj_C p s m args meth c G RX2 cX2_stepAt 3 := C
  show xj_X p l e { frames := 0, cells := 0, slots := 0, locals := 0 } s m args below meth c G 3 0 0 (MQ below (xw_Q G (some (.ref (xg_ad G q.2))) q.1) args s 0 0 (xg_A G)) h [some (.ref (xg_ad G k0)), some (.int a1), none] 0 []
  unfold mX2_stepAt at hR
  refine xr_iload_n C dX2_stepAt_0 rfl ?_
  refine xr_if_lt (tgt := 13) C dX2_stepAt_1 (by decide) hR (fun hR => ?_) (fun hR => ?_)
  · refine xr_aload_n C dX2_stepAt_13 rfl ?_
    refine xr_get C hk0 fl_RX2_22 rfl dX2_stepAt_14 ?_
    exact xr_aret C hr dX2_stepAt_17 hR
  · refine xr_iload_n C dX2_stepAt_4 rfl ?_
    refine xr_aload_n C dX2_stepAt_5 rfl ?_
    refine xr_get C hk0 fl_RX2_17 rfl dX2_stepAt_6 ?_
    refine xr_alenR (v := 12) C (kp_2_8 hk0) rfl (by decide) dX2_stepAt_9 ?_
    refine xr_icmp_lt (tgt := 18) C dX2_stepAt_10 (by decide) hR (fun hR => ?_) (fun hR => ?_)
    · refine xr_aload_n C dX2_stepAt_18 rfl ?_
      refine xr_get C hk0 fl_RX2_17 rfl dX2_stepAt_19 ?_
      refine xr_iload_n C dX2_stepAt_22 rfl ?_
      refine xr_aald C (kp_2_8 hk0) rfl dX2_stepAt_23 hR (fun hx1 hR => ?_)
      refine xr_astore_n C dX2_stepAt_24 rfl (by decide) ?_
      refine xr_aload_n C dX2_stepAt_25 rfl ?_
      refine xr_ifnonnull (tgt := 36) C dX2_stepAt_26 (by decide) ?_
      refine xr_aload_n C dX2_stepAt_36 rfl ?_
      exact xr_aret C hr dX2_stepAt_37 hR
    · refine xr_aload_n C dX2_stepAt_13 rfl ?_
      refine xr_get C hk0 fl_RX2_22 rfl dX2_stepAt_14 ?_
      exact xr_aret C hr dX2_stepAt_17 hR
theorem kr_X2_stepAt {k0 : Nat} {a1 : Int32} {h : xw_M} {r : xw_M × Nat} (hk0 : xw_kd k0 = 2) (hR : mX2_stepAt k0 a1 h = some r) : xw_kd r.2 = 4 := by
  unfold mX2_stepAt at hR
  split at hR <;> (try split at hR) <;> (try split at hR) <;> first | (cases hR; exact kp_2_9 hk0) | (cases hR; exact kl_10 (kp_2_8 hk0) (by assumption)) | (cases hR; done)
end
section
def mX2_hasStepsLeft (k0 : Nat) (h : xw_M) : Option (xw_M × Int32) := (if (h k0 7) ≤ (h k0 2) then some (h, (0 : Int32)) else some (h, (1 : Int32)))
set_option maxHeartbeats 4000000 in
set_option maxRecDepth 100000 in
theorem mcX2_hasStepsLeft (l : Launch) (G : xw_G) {k0 : Nat} (hk0 : xw_kd k0 = 2) {h : xw_M} {q : xw_M × Int32} (hR : mX2_hasStepsLeft k0 h = some q) : xc_M l G yX2_hasStepsLeft cX2_hasStepsLeft 1 (some .boolean) 0 0 [.ref (xg_ad G k0)] h q.1 (some (.int q.2)) := by
  refine xc_of (by decide +kernel) rfl (Nat.le_of_ble_eq_true rfl) ?_
  intro p e s m args below meth c C hr
  have C : xj_C p s m args meth c G RX2 cX2_hasStepsLeft 1 := C
  show xj_X p l e { frames := 0, cells := 0, slots := 0, locals := 0 } s m args below meth c G 1 0 0 (MQ below (xw_Q G (some (.int q.2)) q.1) args s 0 0 (xg_A G)) h [some (.ref (xg_ad G k0))] 0 []
  unfold mX2_hasStepsLeft at hR
  refine xr_aload_n C dX2_hasStepsLeft_0 rfl ?_
  refine xr_get C hk0 fl_RX2_29 rfl dX2_hasStepsLeft_1 ?_
  refine xr_aload_n C dX2_hasStepsLeft_4 rfl ?_
  refine xr_get C hk0 fl_RX2_32 rfl dX2_hasStepsLeft_5 ?_
  refine xr_icmp_ge (tgt := 15) C dX2_hasStepsLeft_8 (by decide) hR (fun hR => ?_) (fun hR => ?_)
  · refine xr_iconst (v := 0) C dX2_hasStepsLeft_15 (by decide) ?_
    exact xr_zret C hr (Or.inl rfl) dX2_hasStepsLeft_16 hR
  · refine xr_iconst (v := 1) C dX2_hasStepsLeft_11 (by decide) ?_
    refine xr_goto (tgt := 16) C dX2_hasStepsLeft_12 (by decide) ?_
    exact xr_zret C hr (Or.inr rfl) dX2_hasStepsLeft_16 hR
end
section
def mX2_moveOn (k0 : Nat) (h : xw_M) : Option (xw_M × Unit) := xo_let (xw_st h k0 2 ((h k0 2) + (1 : Int32))) fun h1 => xo_let (xw_st h1 k0 4 ((h1 k0 4) + (1 : Int32))) fun h2 => some (h2, ())
set_option maxHeartbeats 4000000 in
set_option maxRecDepth 100000 in
theorem mcX2_moveOn (l : Launch) (G : xw_G) {k0 : Nat} (hk0 : xw_kd k0 = 2) {h : xw_M} {q : xw_M × Unit} (hR : mX2_moveOn k0 h = some q) : xc_M l G yX2_moveOn cX2_moveOn 1 none 0 0 [.ref (xg_ad G k0)] h q.1 none := by
  refine xc_of (by decide +kernel) rfl (Nat.le_of_ble_eq_true rfl) ?_
  intro p e s m args below meth c C hr
  have C : xj_C p s m args meth c G RX2 cX2_moveOn 1 := C
  show xj_X p l e { frames := 0, cells := 0, slots := 0, locals := 0 } s m args below meth c G 1 0 0 (MQ below (xw_Q G none q.1) args s 0 0 (xg_A G)) h [some (.ref (xg_ad G k0))] 0 []
  unfold mX2_moveOn at hR
  refine xr_aload_n C dX2_moveOn_0 rfl ?_
  refine xr_dup C dX2_moveOn_1 rfl ?_
  refine xr_get C hk0 fl_RX2_29 rfl dX2_moveOn_2 ?_
  refine xr_iconst (v := 1) C dX2_moveOn_5 (by decide) ?_
  refine xr_iadd C dX2_moveOn_6 ?_
  refine xr_putL C hk0 fl_RX2_29 pf_2_2 dX2_moveOn_7 hR (fun h1 hR => ?_)
  refine xr_aload_n C dX2_moveOn_10 rfl ?_
  refine xr_dup C dX2_moveOn_11 rfl ?_
  refine xr_get C hk0 fl_RX2_35 rfl dX2_moveOn_12 ?_
  refine xr_iconst (v := 1) C dX2_moveOn_15 (by decide) ?_
  refine xr_iadd C dX2_moveOn_16 ?_
  refine xr_putL C hk0 fl_RX2_35 pf_2_4 dX2_moveOn_17 hR (fun h2 hR => ?_)
  exact xr_vret C hr dX2_moveOn_20 hR
end
section
def mX2_goBack (k0 : Nat) (k1 : Nat) (h : xw_M) : Option (xw_M × Unit) := (if (h k1 2) ≤ (h k1 3) then xo_let (xw_st h k1 3 (0 : Int32)) fun h1 => (mX2_moveOn k0 h1).bind fun r2 => some (r2.1, ()) else xo_let (xw_st h k1 3 ((h k1 3) + (1 : Int32))) fun h3 => xo_let (xw_st h3 k0 2 (h3 k1 1)) fun h4 => xo_let (xw_st h4 k0 4 ((h4 k0 4) + (1 : Int32))) fun h5 => some (h5, ()))
set_option maxHeartbeats 4000000 in
set_option maxRecDepth 100000 in
theorem mcX2_goBack (l : Launch) (G : xw_G) {k0 : Nat} {k1 : Nat} (hk0 : xw_kd k0 = 2) (hk1 : xw_kd k1 = 4) {h : xw_M} {q : xw_M × Unit} (hR : mX2_goBack k0 k1 h = some q) : xc_M l G yX2_goBack cX2_goBack 2 none 1 20 [.ref (xg_ad G k0), .ref (xg_ad G k1)] h q.1 none := by
  refine xc_of (by decide +kernel) rfl (Nat.le_of_ble_eq_true rfl) ?_
  intro p e s m args below meth c C hr
  have C : xj_C p s m args meth c G RX2 cX2_goBack 2 := C
  show xj_X p l e { frames := 1, cells := 0, slots := 0, locals := 20 } s m args below meth c G 2 0 0 (MQ below (xw_Q G none q.1) args s 0 0 (xg_A G)) h [some (.ref (xg_ad G k0)), some (.ref (xg_ad G k1))] 0 []
  unfold mX2_goBack at hR
  refine xr_aload_n C dX2_goBack_0 rfl ?_
  refine xr_get C hk1 fl_RX2_38 rfl dX2_goBack_1 ?_
  refine xr_aload_n C dX2_goBack_4 rfl ?_
  refine xr_get C hk1 fl_RX2_41 rfl dX2_goBack_5 ?_
  refine xr_icmp_ge (tgt := 42) C dX2_goBack_8 (by decide) hR (fun hR => ?_) (fun hR => ?_)
  · refine xr_aload_n C dX2_goBack_42 rfl ?_
    refine xr_iconst (v := 0) C dX2_goBack_43 (by decide) ?_
    refine xr_putL C hk1 fl_RX2_38 pf_4_3 dX2_goBack_44 hR (fun h1 hR => ?_)
    refine xr_aload_n C dX2_goBack_47 rfl ?_
    refine xr_callVv C (st := []) [] cv_RX2_47 hk0 (fun _ zz9 => mcX2_moveOn l G hk0 zz9) rfl ⟨Nat.le_of_ble_eq_true rfl, Nat.le_of_ble_eq_true rfl⟩ (Nat.le_of_ble_eq_true rfl) ⟨Nat.zero_le _, Nat.zero_le _⟩ rfl dX2_goBack_48 hR (fun r2 hr2 hR => ?_)
    exact xr_vret C hr dX2_goBack_51 hR
  · refine xr_aload_n C dX2_goBack_11 rfl ?_
    refine xr_dup C dX2_goBack_12 rfl ?_
    refine xr_get C hk1 fl_RX2_38 rfl dX2_goBack_13 ?_
    refine xr_iconst (v := 1) C dX2_goBack_16 (by decide) ?_
    refine xr_iadd C dX2_goBack_17 ?_
    refine xr_putL C hk1 fl_RX2_38 pf_4_3 dX2_goBack_18 hR (fun h3 hR => ?_)
    refine xr_aload_n C dX2_goBack_21 rfl ?_
    refine xr_aload_n C dX2_goBack_22 rfl ?_
    refine xr_get C hk1 fl_RX2_44 rfl dX2_goBack_23 ?_
    refine xr_putL C hk0 fl_RX2_29 pf_2_2 dX2_goBack_26 hR (fun h4 hR => ?_)
    refine xr_aload_n C dX2_goBack_29 rfl ?_
    refine xr_dup C dX2_goBack_30 rfl ?_
    refine xr_get C hk0 fl_RX2_35 rfl dX2_goBack_31 ?_
    refine xr_iconst (v := 1) C dX2_goBack_34 (by decide) ?_
    refine xr_iadd C dX2_goBack_35 ?_
    refine xr_putL C hk0 fl_RX2_35 pf_2_4 dX2_goBack_36 hR (fun h5 hR => ?_)
    refine xr_goto (tgt := 51) C dX2_goBack_39 (by decide) ?_
    exact xr_vret C hr dX2_goBack_51 hR
end
section
def mX2_becomeLike_b58  (k0 : Nat) (k1 : Nat) : Nat → xw_M → Int32 → Option (xw_M × Unit)
  | 0, _, _ => none
  | n + 1, h, a2 => (if (h k0 7) ≤ a2 then some (h, ()) else (mX2_stepAt k0 a2 h).bind fun r8 => (mX2_stepAt k1 a2 r8.1).bind fun r9 => (mX4_becomeLike r8.2 r9.2 r9.1).bind fun r10 => mX2_becomeLike_b58  k0 k1 n r10.1 ((a2 + 1)))
def mX2_becomeLike (k0 : Nat) (k1 : Nat) (h : xw_M) : Option (xw_M × Unit) := xo_let (xw_st h k0 1 (h k1 1)) fun h1 => xo_let (xw_st h1 k0 2 (h1 k1 2)) fun h2 => xo_let (xw_st h2 k0 3 (h2 k1 3)) fun h3 => xo_let (xw_st h3 k0 4 (h3 k1 4)) fun h4 => xo_let (xw_st h4 k0 5 (h4 k1 5)) fun h5 => xo_let (xw_st h5 k0 6 (h5 k1 6)) fun h6 => xo_let (xw_st h6 k0 7 (h6 k1 7)) fun h7 => mX2_becomeLike_b58  (k0) (k1) xo_n h7 ((0 : Int32))
set_option maxHeartbeats 4000000 in
set_option maxRecDepth 100000 in
theorem mbX2_becomeLike_b58 {p : Program} {l : Launch} {e : Env} {s : State} {m : MethodId} {args : Array Value} {below : List Frame} {meth : Method} {c : Code} {G : xw_G} (C : xj_C p s m args meth c G RX2 cX2_becomeLike 3) (hr : meth.sig.returnType = none) {q : xw_M × Unit} {k0 : Nat} {k1 : Nat}  (hk0 : xw_kd k0 = 2) (hk1 : xw_kd k1 = 2) : ∀ (n : Nat) (h : xw_M) (a2 : Int32), mX2_becomeLike_b58  k0 k1 n h a2 = some q → xj_X p l e { frames := 1, cells := 0, slots := 0, locals := 22 } s m args below meth c G 3 0 0 (MQ below (xw_Q G none q.1) args s 0 0 (xg_A G)) h [some (.ref (xg_ad G k0)), some (.ref (xg_ad G k1)), some (.int a2)] 58 [] := by
  intro n
  induction n with
  | zero => intro h a2 hR; exact absurd (show (none : Option (xw_M × Unit)) = some q from hR) (fun z => by cases z)
  | succ n ih =>
    intro h a2 hR
    rw [mX2_becomeLike_b58.eq_2] at hR
    refine xr_iload_n C dX2_becomeLike_58 rfl ?_
    refine xr_aload_n C dX2_becomeLike_59 rfl ?_
    refine xr_get C hk0 fl_RX2_32 rfl dX2_becomeLike_60 ?_
    refine xr_icmp_ge (tgt := 85) C dX2_becomeLike_63 (by decide) hR (fun hR => ?_) (fun hR => ?_)
    · exact xr_vret C hr dX2_becomeLike_85 hR
    · refine xr_aload_n C dX2_becomeLike_66 rfl ?_
      refine xr_iload_n C dX2_becomeLike_67 rfl ?_
      refine xr_callVr C (st := []) [.int a2] cv_RX2_59 hk0 (fun _ zz9 => mcX2_stepAt l G hk0 zz9) rfl ⟨Nat.le_of_ble_eq_true rfl, Nat.le_of_ble_eq_true rfl⟩ (Nat.le_of_ble_eq_true rfl) ⟨Nat.zero_le _, Nat.zero_le _⟩ rfl dX2_becomeLike_68 hR (fun r8 hr8 hR => ?_)
      refine xr_aload_n C dX2_becomeLike_71 rfl ?_
      refine xr_iload_n C dX2_becomeLike_72 rfl ?_
      refine xr_callVr C (st := [.ref (xg_ad G r8.2)]) [.int a2] cv_RX2_59 hk1 (fun _ zz9 => mcX2_stepAt l G hk1 zz9) rfl ⟨Nat.le_of_ble_eq_true rfl, Nat.le_of_ble_eq_true rfl⟩ (Nat.le_of_ble_eq_true rfl) ⟨Nat.zero_le _, Nat.zero_le _⟩ rfl dX2_becomeLike_73 hR (fun r9 hr9 hR => ?_)
      refine xr_callVv C (st := []) [.ref (xg_ad G r9.2)] cv_RX2_63 (kr_X2_stepAt hk0 hr8) (fun _ zz9 => mcX4_becomeLike l G (kr_X2_stepAt hk0 hr8) (kr_X2_stepAt hk1 hr9) zz9) rfl ⟨Nat.le_of_ble_eq_true rfl, Nat.le_of_ble_eq_true rfl⟩ (Nat.le_of_ble_eq_true rfl) ⟨Nat.zero_le _, Nat.zero_le _⟩ rfl dX2_becomeLike_76 hR (fun r10 hr10 hR => ?_)
      refine xr_iinc (v := 1) C dX2_becomeLike_79 rfl (by decide) rfl (by decide) ?_
      refine xr_goto (tgt := 58) C dX2_becomeLike_82 (by decide) ?_
      exact xr_sub (lv9 := [some (.ref (xg_ad G k0)), some (.ref (xg_ad G k1)), some (.int (a2 + 1))]) (And.intro rfl (And.intro rfl (And.intro rfl trivial))) (ih _ _  hR)
set_option maxHeartbeats 4000000 in
set_option maxRecDepth 100000 in
theorem mcX2_becomeLike (l : Launch) (G : xw_G) {k0 : Nat} {k1 : Nat} (hk0 : xw_kd k0 = 2) (hk1 : xw_kd k1 = 2) {h : xw_M} {q : xw_M × Unit} (hR : mX2_becomeLike k0 k1 h = some q) : xc_M l G yX2_becomeLike cX2_becomeLike 3 none 1 22 [.ref (xg_ad G k0), .ref (xg_ad G k1)] h q.1 none := by
  refine xc_of (by decide +kernel) rfl (Nat.le_of_ble_eq_true rfl) ?_
  intro p e s m args below meth c C hr
  have C : xj_C p s m args meth c G RX2 cX2_becomeLike 3 := C
  show xj_X p l e { frames := 1, cells := 0, slots := 0, locals := 22 } s m args below meth c G 3 0 0 (MQ below (xw_Q G none q.1) args s 0 0 (xg_A G)) h [some (.ref (xg_ad G k0)), some (.ref (xg_ad G k1)), none] 0 []
  unfold mX2_becomeLike at hR
  refine xr_aload_n C dX2_becomeLike_0 rfl ?_
  refine xr_aload_n C dX2_becomeLike_1 rfl ?_
  refine xr_get C hk1 fl_RX2_9 rfl dX2_becomeLike_2 ?_
  refine xr_putL C hk0 fl_RX2_9 pf_2_1 dX2_becomeLike_5 hR (fun h1 hR => ?_)
  refine xr_aload_n C dX2_becomeLike_8 rfl ?_
  refine xr_aload_n C dX2_becomeLike_9 rfl ?_
  refine xr_get C hk1 fl_RX2_29 rfl dX2_becomeLike_10 ?_
  refine xr_putL C hk0 fl_RX2_29 pf_2_2 dX2_becomeLike_13 hR (fun h2 hR => ?_)
  refine xr_aload_n C dX2_becomeLike_16 rfl ?_
  refine xr_aload_n C dX2_becomeLike_17 rfl ?_
  refine xr_get C hk1 fl_RX2_50 rfl dX2_becomeLike_18 ?_
  refine xr_putL C hk0 fl_RX2_50 pf_2_3 dX2_becomeLike_21 hR (fun h3 hR => ?_)
  refine xr_aload_n C dX2_becomeLike_24 rfl ?_
  refine xr_aload_n C dX2_becomeLike_25 rfl ?_
  refine xr_get C hk1 fl_RX2_35 rfl dX2_becomeLike_26 ?_
  refine xr_putL C hk0 fl_RX2_35 pf_2_4 dX2_becomeLike_29 hR (fun h4 hR => ?_)
  refine xr_aload_n C dX2_becomeLike_32 rfl ?_
  refine xr_aload_n C dX2_becomeLike_33 rfl ?_
  refine xr_get C hk1 fl_RX2_53 rfl dX2_becomeLike_34 ?_
  refine xr_putL C hk0 fl_RX2_53 pf_2_5 dX2_becomeLike_37 hR (fun h5 hR => ?_)
  refine xr_aload_n C dX2_becomeLike_40 rfl ?_
  refine xr_aload_n C dX2_becomeLike_41 rfl ?_
  refine xr_get C hk1 fl_RX2_56 rfl dX2_becomeLike_42 ?_
  refine xr_putL C hk0 fl_RX2_56 pf_2_6 dX2_becomeLike_45 hR (fun h6 hR => ?_)
  refine xr_aload_n C dX2_becomeLike_48 rfl ?_
  refine xr_aload_n C dX2_becomeLike_49 rfl ?_
  refine xr_get C hk1 fl_RX2_32 rfl dX2_becomeLike_50 ?_
  refine xr_putL C hk0 fl_RX2_32 pf_2_7 dX2_becomeLike_53 hR (fun h7 hR => ?_)
  refine xr_iconst (v := 0) C dX2_becomeLike_56 (by decide) ?_
  refine xr_istore_n C dX2_becomeLike_57 rfl (by decide) ?_
  exact xr_sub (lv9 := [some (.ref (xg_ad G k0)), some (.ref (xg_ad G k1)), some (.int (0 : Int32))]) (And.intro rfl (And.intro rfl (And.intro rfl trivial))) (mbX2_becomeLike_b58 C hr  hk0 hk1 _ _ _  hR)
end
