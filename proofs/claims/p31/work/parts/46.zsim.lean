section
def mX7_ready (a1 : Int32) (y : yz_Y) : Option (yz_Y × Unit) := if xo_ix a1 (y.2 3) = true then if yz_is y (10 + (Int32.toNatClampNeg a1)) 1 = true then (xo_let (yz_st y (10 + (Int32.toNatClampNeg a1)) 4 (0 : Int32)) fun y1 => if (yz_is y1 4 2 && decide (y1.2 4 ≤ 12)) = true then (xo_let (yz_app y1 4 a1) fun y2 => some (y2, ())) else none) else none else none
set_option maxHeartbeats 4000000 in
set_option maxRecDepth 100000 in
theorem zcX7_ready (l : Launch) (G : xw_G) {a1 : Int32} {yS : Nat → Nat} {h : xw_M} {y : yz_Y} {q : yz_Y × Unit} (hR : mX7_ready  a1 y = some q) : zc_G l G yX7_ready cX7_ready 2 none 1 23 1 13 [.ref (yS 0), .int a1] (zPr G yS h y) (zPo G (zCh 4 4) yS h q.1 (fun _ => none)) := by
  refine zc_of (by decide +kernel) rfl (Nat.le_of_ble_eq_true rfl) ?_
  intro p e s m args below meth c C hr hP
  have C : zj_C p s m args meth c G RX7 cX7_ready 2 := C
  obtain ⟨yd, e9⟩ : ∃ yd : Nat → Nat, yd = yS := ⟨_, rfl⟩
  have e0 : yS 0 = yd 0 := by rw [e9]
  refine zr_eqH (Pr2 := yz_W G (zCh 4 4) yS yd h y) (fun H e => by rw [e, e9]; exact ⟨hP.1, hP.2.1, hP.2.2.1, fun _ _ => rfl⟩) ?_
  rw [e0]
  clear e0 e9 hP
  show zj_X p l e { frames := 1, cells := 1, slots := 13, locals := 23 } s m args below meth c G 2 0 0 (MQ below (zc_Q G (zPo G (zCh 4 4) yS h q.1 (fun _ => none))) args s 1 13 (xg_B G)) (yz_W G (zCh 4 4) yS yd h y) [some (.ref (yd 0)), some (.int a1)] 0 []
  unfold mX7_ready at hR
  refine zr_aload_n C dX7_ready_0 rfl ?_
  refine zr_getS C fl_RX7_20 rfl dX7_ready_1 ?_
  refine zr_iload_n C dX7_ready_4 rfl ?_
  refine zr_aald4 C dX7_ready_5 hR (fun hR => ?_)
  refine zr_iconst (v := 0) C dX7_ready_6 (by decide) ?_
  refine zr_putF C (by decide) fl_RX7_55 zpf_6_4 dX7_ready_7 hR (fun y1 hR => ?_)
  refine zr_aload_n C dX7_ready_10 rfl ?_
  refine zr_aload_n C dX7_ready_11 rfl ?_
  refine zr_getS C fl_RX7_24 rfl dX7_ready_12 ?_
  refine zr_iload_n C dX7_ready_15 rfl ?_
  refine zr_withS C (by decide) ⟨by omega, by omega⟩ cs_RX7_67 fl_RX7_24 zpr_7_5 ⟨Nat.le_of_ble_eq_true rfl, Nat.le_of_ble_eq_true rfl⟩ (Nat.le_of_ble_eq_true rfl) ⟨by show _ ≤ 1; omega, by show _ ≤ 13; omega⟩ dX7_ready_16 dX7_ready_19 hR (fun y2 hR yd3 hy4 => ?_)
  exact zq_v C hr (by omega) (by omega) dX7_ready_22 hR
end
section
def mX7_waitIn (a1 : Int32) (a2 : Int32) (y : yz_Y) : Option (yz_Y × Unit) := if xo_ix a1 (y.2 3) = true then if yz_is y (10 + (Int32.toNatClampNeg a1)) 1 = true then (xo_let (yz_st y (10 + (Int32.toNatClampNeg a1)) 4 a2) fun y1 => if (yz_is y1 5 2 && decide (y1.2 5 ≤ 12)) = true then (xo_let (yz_app y1 5 a1) fun y2 => some (y2, ())) else none) else none else none
set_option maxHeartbeats 4000000 in
set_option maxRecDepth 100000 in
theorem zcX7_waitIn (l : Launch) (G : xw_G) {a1 : Int32} {a2 : Int32} {yS : Nat → Nat} {h : xw_M} {y : yz_Y} {q : yz_Y × Unit} (hR : mX7_waitIn  a1 a2 y = some q) : zc_G l G yX7_waitIn cX7_waitIn 3 none 1 23 1 13 [.ref (yS 0), .int a1, .int a2] (zPr G yS h y) (zPo G (zCh 5 5) yS h q.1 (fun _ => none)) := by
  refine zc_of (by decide +kernel) rfl (Nat.le_of_ble_eq_true rfl) ?_
  intro p e s m args below meth c C hr hP
  have C : zj_C p s m args meth c G RX7 cX7_waitIn 3 := C
  obtain ⟨yd, e9⟩ : ∃ yd : Nat → Nat, yd = yS := ⟨_, rfl⟩
  have e0 : yS 0 = yd 0 := by rw [e9]
  refine zr_eqH (Pr2 := yz_W G (zCh 5 5) yS yd h y) (fun H e => by rw [e, e9]; exact ⟨hP.1, hP.2.1, hP.2.2.1, fun _ _ => rfl⟩) ?_
  rw [e0]
  clear e0 e9 hP
  show zj_X p l e { frames := 1, cells := 1, slots := 13, locals := 23 } s m args below meth c G 3 0 0 (MQ below (zc_Q G (zPo G (zCh 5 5) yS h q.1 (fun _ => none))) args s 1 13 (xg_B G)) (yz_W G (zCh 5 5) yS yd h y) [some (.ref (yd 0)), some (.int a1), some (.int a2)] 0 []
  unfold mX7_waitIn at hR
  refine zr_aload_n C dX7_waitIn_0 rfl ?_
  refine zr_getS C fl_RX7_20 rfl dX7_waitIn_1 ?_
  refine zr_iload_n C dX7_waitIn_4 rfl ?_
  refine zr_aald4 C dX7_waitIn_5 hR (fun hR => ?_)
  refine zr_iload_n C dX7_waitIn_6 rfl ?_
  refine zr_putF C (by decide) fl_RX7_55 zpf_6_4 dX7_waitIn_7 hR (fun y1 hR => ?_)
  refine zr_aload_n C dX7_waitIn_10 rfl ?_
  refine zr_aload_n C dX7_waitIn_11 rfl ?_
  refine zr_getS C fl_RX7_27 rfl dX7_waitIn_12 ?_
  refine zr_iload_n C dX7_waitIn_15 rfl ?_
  refine zr_withS C (by decide) ⟨by omega, by omega⟩ cs_RX7_67 fl_RX7_27 zpr_7_6 ⟨Nat.le_of_ble_eq_true rfl, Nat.le_of_ble_eq_true rfl⟩ (Nat.le_of_ble_eq_true rfl) ⟨by show _ ≤ 1; omega, by show _ ≤ 13; omega⟩ dX7_waitIn_16 dX7_waitIn_19 hR (fun y2 hR yd3 hy4 => ?_)
  exact zq_v C hr (by omega) (by omega) dX7_waitIn_22 hR
end
section
def mX7_waitingAt_b62 (K16 : yz_Y → Int32 → Int32 → Option (yz_Y × Int32)) (a1 : Int32) (a2 : Int32) (a5 : Int32) (a6 : Int32) (y : yz_Y) (as0 : Int32) (as1 : Int32) : Option (yz_Y × Int32) := K16 y ((as1 + as0)) ((a6 + 1))
def mX7_waitingAt_b61 (K16 : yz_Y → Int32 → Int32 → Option (yz_Y × Int32)) (a1 : Int32) (a2 : Int32) (a5 : Int32) (a6 : Int32) (y : yz_Y) (as0 : Int32) : Option (yz_Y × Int32) := mX7_waitingAt_b62 (K16) (a1) (a2) (a5) (a6) y ((0 : Int32)) (as0)
def mX7_waitingAt_b16  (a1 : Int32) (a2 : Int32) (a5 : Int32) : Nat → yz_Y → Int32 → Int32 → Option (yz_Y × Int32)
  | 0, _, _, _ => none
  | n + 1, y, a3, a6 => (if a5 ≤ a6 then some (y, a3) else if xo_ix a6 (y.2 3) = true then if yz_is y (10 + (Int32.toNatClampNeg a6)) 1 = true then (if (y.1 (10 + (Int32.toNatClampNeg a6)) 4) = a1 then if yz_is y (10 + (Int32.toNatClampNeg a6)) 1 = true then if yz_is y (10 + (Int32.toNatClampNeg a6)) 1 = true then if (yz_is y (20 + (Int32.toNatClampNeg a6)) 5 && xo_ix (y.1 (10 + (Int32.toNatClampNeg a6)) 2) (y.2 (20 + (Int32.toNatClampNeg a6)))) = true then if (yz_is y (40 + (12 * (Int32.toNatClampNeg a6) + (Int32.toNatClampNeg (y.1 (10 + (Int32.toNatClampNeg a6)) 2)))) 2 && xo_ix (1 : Int32) (y.2 (40 + (12 * (Int32.toNatClampNeg a6) + (Int32.toNatClampNeg (y.1 (10 + (Int32.toNatClampNeg a6)) 2)))))) = true then (if (y.1 (40 + (12 * (Int32.toNatClampNeg a6) + (Int32.toNatClampNeg (y.1 (10 + (Int32.toNatClampNeg a6)) 2)))) (Int32.toNatClampNeg (1 : Int32))) = a2 then mX7_waitingAt_b62 (mX7_waitingAt_b16  a1 a2 a5 n) (a1) (a2) (a5) (a6) y ((1 : Int32)) (a3) else mX7_waitingAt_b61 (mX7_waitingAt_b16  a1 a2 a5 n) (a1) (a2) (a5) (a6) y (a3)) else none else none else none else none else mX7_waitingAt_b61 (mX7_waitingAt_b16  a1 a2 a5 n) (a1) (a2) (a5) (a6) y (a3)) else none else none)
def mX7_waitingAt (a1 : Int32) (a2 : Int32) (y : yz_Y) : Option (yz_Y × Int32) := mX7_waitingAt_b16  (a1) (a2) ((nI (y.2 3))) xo_n y ((0 : Int32)) ((0 : Int32))
set_option maxHeartbeats 4000000 in
set_option maxRecDepth 100000 in
theorem mbX7_waitingAt_b62 {p : Program} {l : Launch} {e : Env} {s : State} {m : MethodId} {args : Array Value} {below : List Frame} {meth : Method} {c : Code} {G : xw_G} (C : zj_C p s m args meth c G RX7 cX7_waitingAt 8) (hr : meth.sig.returnType = (some .int)) {yS : Nat → Nat} {h : xw_M} {q : yz_Y × Int32} {NK16 MK16 : Nat} {K16 : yz_Y → Int32 → Int32 → Option (yz_Y × Int32)} {a1 : Int32} {a2 : Int32} {a5 : Int32} {a6 : Int32} (hK16 : ∀ {cells slots : Nat} (yd : Nat → Nat) (y : yz_Y) (a3 : Int32) (a6 : Int32), cells + NK16 ≤ 0 → slots + MK16 ≤ 0 → K16 y a3 a6 = some q → zj_X p l e { frames := 0, cells := 0, slots := 0, locals := 0 } s m args below meth c G 8 cells slots (MQ below (zc_Q G (zPo G (zCh 1 0) yS h q.1 (fun _ => some (.int q.2)))) args s 0 0 (xg_B G)) (yz_W G (zCh 1 0) yS yd h y) [none, some (.int a1), some (.int a2), some (.int a3), some (.ref (yd 3)), some (.int a5), some (.int a6), none] 16 []) {cells slots : Nat} (yd : Nat → Nat) (y : yz_Y) (as0 : Int32) (as1 : Int32) (hc_16 : cells + (0 + NK16) ≤ 0) (hs_16 : slots + (0 + MK16) ≤ 0) (hR : mX7_waitingAt_b62 K16 a1 a2 a5 a6 y as0 as1 = some q) : zj_X p l e { frames := 0, cells := 0, slots := 0, locals := 0 } s m args below meth c G 8 cells slots (MQ below (zc_Q G (zPo G (zCh 1 0) yS h q.1 (fun _ => some (.int q.2)))) args s 0 0 (xg_B G)) (yz_W G (zCh 1 0) yS yd h y) [none, some (.int a1), some (.int a2), none, some (.ref (yd 3)), some (.int a5), some (.int a6), none] 62 [.int as0, .int as1] := by
  unfold mX7_waitingAt_b62 at hR
  refine zr_iadd C dX7_waitingAt_62 ?_
  refine zr_istore_n C dX7_waitingAt_63 rfl (by decide) ?_
  refine zr_iinc (v := 1) C dX7_waitingAt_64 rfl (by decide) rfl (by decide) ?_
  refine zr_goto (tgt := 16) C dX7_waitingAt_67 (by decide) ?_
  exact zr_sub (lv9 := [none, some (.int a1), some (.int a2), some (.int (as1 + as0)), some (.ref (yd 3)), some (.int a5), some (.int (a6 + 1)), none]) (And.intro rfl (And.intro rfl (And.intro rfl (And.intro rfl (And.intro rfl (And.intro rfl trivial)))))) (hK16 yd _ _ _ (by omega) (by omega) hR)
set_option maxHeartbeats 4000000 in
set_option maxRecDepth 100000 in
theorem mbX7_waitingAt_b61 {p : Program} {l : Launch} {e : Env} {s : State} {m : MethodId} {args : Array Value} {below : List Frame} {meth : Method} {c : Code} {G : xw_G} (C : zj_C p s m args meth c G RX7 cX7_waitingAt 8) (hr : meth.sig.returnType = (some .int)) {yS : Nat → Nat} {h : xw_M} {q : yz_Y × Int32} {NK16 MK16 : Nat} {K16 : yz_Y → Int32 → Int32 → Option (yz_Y × Int32)} {a1 : Int32} {a2 : Int32} {a5 : Int32} {a6 : Int32} (hK16 : ∀ {cells slots : Nat} (yd : Nat → Nat) (y : yz_Y) (a3 : Int32) (a6 : Int32), cells + NK16 ≤ 0 → slots + MK16 ≤ 0 → K16 y a3 a6 = some q → zj_X p l e { frames := 0, cells := 0, slots := 0, locals := 0 } s m args below meth c G 8 cells slots (MQ below (zc_Q G (zPo G (zCh 1 0) yS h q.1 (fun _ => some (.int q.2)))) args s 0 0 (xg_B G)) (yz_W G (zCh 1 0) yS yd h y) [none, some (.int a1), some (.int a2), some (.int a3), some (.ref (yd 3)), some (.int a5), some (.int a6), none] 16 []) {cells slots : Nat} (yd : Nat → Nat) (y : yz_Y) (as0 : Int32) (hc_16 : cells + (0 + NK16) ≤ 0) (hs_16 : slots + (0 + MK16) ≤ 0) (hR : mX7_waitingAt_b61 K16 a1 a2 a5 a6 y as0 = some q) : zj_X p l e { frames := 0, cells := 0, slots := 0, locals := 0 } s m args below meth c G 8 cells slots (MQ below (zc_Q G (zPo G (zCh 1 0) yS h q.1 (fun _ => some (.int q.2)))) args s 0 0 (xg_B G)) (yz_W G (zCh 1 0) yS yd h y) [none, some (.int a1), some (.int a2), none, some (.ref (yd 3)), some (.int a5), some (.int a6), none] 61 [.int as0] := by
  unfold mX7_waitingAt_b61 at hR
  refine zr_iconst (v := 0) C dX7_waitingAt_61 (by decide) ?_
  exact zr_sub (lv9 := [none, some (.int a1), some (.int a2), none, some (.ref (yd 3)), some (.int a5), some (.int a6), none]) (And.intro rfl (And.intro rfl (And.intro rfl (And.intro rfl (And.intro rfl trivial))))) (mbX7_waitingAt_b62 C hr (NK16 := NK16) (MK16 := MK16) hK16 yd _ _ _ (by omega) (by omega) hR)
set_option maxHeartbeats 4000000 in
set_option maxRecDepth 100000 in
theorem mbX7_waitingAt_b16 {p : Program} {l : Launch} {e : Env} {s : State} {m : MethodId} {args : Array Value} {below : List Frame} {meth : Method} {c : Code} {G : xw_G} (C : zj_C p s m args meth c G RX7 cX7_waitingAt 8) (hr : meth.sig.returnType = (some .int)) {yS : Nat → Nat} {h : xw_M} {q : yz_Y × Int32} {a1 : Int32} {a2 : Int32} {a5 : Int32}  : ∀ (n : Nat) {cells slots : Nat} (yd : Nat → Nat) (y : yz_Y) (a3 : Int32) (a6 : Int32), cells + (0) ≤ 0 → slots + (0) ≤ 0 → mX7_waitingAt_b16  a1 a2 a5 n y a3 a6 = some q → zj_X p l e { frames := 0, cells := 0, slots := 0, locals := 0 } s m args below meth c G 8 cells slots (MQ below (zc_Q G (zPo G (zCh 1 0) yS h q.1 (fun _ => some (.int q.2)))) args s 0 0 (xg_B G)) (yz_W G (zCh 1 0) yS yd h y) [none, some (.int a1), some (.int a2), some (.int a3), some (.ref (yd 3)), some (.int a5), some (.int a6), none] 16 [] := by
  intro n
  induction n with
  | zero => intro cells slots yd y a3 a6 hc_x hs_x hR; exact absurd (show (none : Option (yz_Y × Int32)) = some q from hR) (fun z => by cases z)
  | succ n ih =>
    intro cells slots yd y a3 a6 hc_x hs_x hR
    rw [mX7_waitingAt_b16.eq_2] at hR
    refine zr_iload C dX7_waitingAt_16 rfl ?_
    refine zr_iload C dX7_waitingAt_18 rfl ?_
    refine zr_icmp_ge (tgt := 70) C dX7_waitingAt_20 (by decide) hR (fun hR => ?_) (fun hR => ?_)
    · refine zr_iload_n C dX7_waitingAt_70 rfl ?_
      exact zq_i C hr (by omega) (by omega) dX7_waitingAt_71 hR
    · refine zr_aload C dX7_waitingAt_23 rfl ?_
      refine zr_iload C dX7_waitingAt_25 rfl ?_
      refine zr_aald4 C dX7_waitingAt_27 hR (fun hR => ?_)
      refine zr_astore C dX7_waitingAt_28 rfl (by decide) ?_
      refine zr_iload_n C dX7_waitingAt_30 rfl ?_
      refine zr_aload C dX7_waitingAt_31 rfl ?_
      refine zr_getF C fl_RX7_55 rfl dX7_waitingAt_33 hR (fun hR => ?_)
      refine zr_iload_n C dX7_waitingAt_36 rfl ?_
      refine zr_icmp_ne (tgt := 61) C dX7_waitingAt_37 (by decide) hR (fun hR => ?_) (fun hR => ?_)
      · exact zr_sub (lv9 := [none, some (.int a1), some (.int a2), none, some (.ref (yd 3)), some (.int a5), some (.int a6), none]) (And.intro rfl (And.intro rfl (And.intro rfl (And.intro rfl (And.intro rfl trivial))))) (mbX7_waitingAt_b61 C hr (NK16 := (0)) (MK16 := (0)) (fun yd y z3 z6 h1 h2 h3 => ih yd y z3 z6 (by omega) (by omega) h3) yd _ _ (by omega) (by omega) hR)
      · refine zr_aload C dX7_waitingAt_40 rfl ?_
        refine zr_getF C fl_RX7_43 rfl dX7_waitingAt_42 hR (fun hR => ?_)
        refine zr_aload C dX7_waitingAt_45 rfl ?_
        refine zr_getF C fl_RX7_49 rfl dX7_waitingAt_47 hR (fun hR => ?_)
        refine zr_aald5 C dX7_waitingAt_50 hR (fun hR => ?_)
        refine zr_iconst (v := 1) C dX7_waitingAt_51 (by decide) ?_
        refine zr_iald C dX7_waitingAt_52 hR (fun hR => ?_)
        refine zr_iload_n C dX7_waitingAt_53 rfl ?_
        refine zr_icmp_ne (tgt := 61) C dX7_waitingAt_54 (by decide) hR (fun hR => ?_) (fun hR => ?_)
        · exact zr_sub (lv9 := [none, some (.int a1), some (.int a2), none, some (.ref (yd 3)), some (.int a5), some (.int a6), none]) (And.intro rfl (And.intro rfl (And.intro rfl (And.intro rfl (And.intro rfl trivial))))) (mbX7_waitingAt_b61 C hr (NK16 := (0)) (MK16 := (0)) (fun yd y z3 z6 h1 h2 h3 => ih yd y z3 z6 (by omega) (by omega) h3) yd _ _ (by omega) (by omega) hR)
        · refine zr_iconst (v := 1) C dX7_waitingAt_57 (by decide) ?_
          refine zr_goto (tgt := 62) C dX7_waitingAt_58 (by decide) ?_
          exact zr_sub (lv9 := [none, some (.int a1), some (.int a2), none, some (.ref (yd 3)), some (.int a5), some (.int a6), none]) (And.intro rfl (And.intro rfl (And.intro rfl (And.intro rfl (And.intro rfl trivial))))) (mbX7_waitingAt_b62 C hr (NK16 := (0)) (MK16 := (0)) (fun yd y z3 z6 h1 h2 h3 => ih yd y z3 z6 (by omega) (by omega) h3) yd _ _ _ (by omega) (by omega) hR)
set_option maxHeartbeats 4000000 in
set_option maxRecDepth 100000 in
theorem zcX7_waitingAt (l : Launch) (G : xw_G) {a1 : Int32} {a2 : Int32} {yS : Nat → Nat} {h : xw_M} {y : yz_Y} {q : yz_Y × Int32} (hR : mX7_waitingAt  a1 a2 y = some q) : zc_G l G yX7_waitingAt cX7_waitingAt 8 (some .int) 0 0 0 0 [.ref (yS 0), .int a1, .int a2] (zPr G yS h y) (zPo G (zCh 1 0) yS h q.1 (fun _ => some (.int q.2))) := by
  refine zc_of (by decide +kernel) rfl (Nat.le_of_ble_eq_true rfl) ?_
  intro p e s m args below meth c C hr hP
  have C : zj_C p s m args meth c G RX7 cX7_waitingAt 8 := C
  obtain ⟨yd, e9⟩ : ∃ yd : Nat → Nat, yd = yS := ⟨_, rfl⟩
  have e0 : yS 0 = yd 0 := by rw [e9]
  refine zr_eqH (Pr2 := yz_W G (zCh 1 0) yS yd h y) (fun H e => by rw [e, e9]; exact ⟨hP.1, hP.2.1, hP.2.2.1, fun _ _ => rfl⟩) ?_
  rw [e0]
  clear e0 e9 hP
  show zj_X p l e { frames := 0, cells := 0, slots := 0, locals := 0 } s m args below meth c G 8 0 0 (MQ below (zc_Q G (zPo G (zCh 1 0) yS h q.1 (fun _ => some (.int q.2)))) args s 0 0 (xg_B G)) (yz_W G (zCh 1 0) yS yd h y) [some (.ref (yd 0)), some (.int a1), some (.int a2), none, none, none, none, none] 0 []
  unfold mX7_waitingAt at hR
  refine zr_iconst (v := 0) C dX7_waitingAt_0 (by decide) ?_
  refine zr_istore_n C dX7_waitingAt_1 rfl (by decide) ?_
  refine zr_aload_n C dX7_waitingAt_2 rfl ?_
  refine zr_getS C fl_RX7_20 rfl dX7_waitingAt_3 ?_
  refine zr_astore C dX7_waitingAt_6 rfl (by decide) ?_
  refine zr_aload C dX7_waitingAt_8 rfl ?_
  refine zr_alen4 C dX7_waitingAt_10 ?_
  refine zr_istore C dX7_waitingAt_11 rfl (by decide) ?_
  refine zr_iconst (v := 0) C dX7_waitingAt_13 (by decide) ?_
  refine zr_istore C dX7_waitingAt_14 rfl (by decide) ?_
  exact zr_sub (lv9 := [none, some (.int a1), some (.int a2), some (.int (0 : Int32)), some (.ref (yd 3)), some (.int (nI (y.2 3))), some (.int (0 : Int32)), none]) (And.intro rfl (And.intro rfl (And.intro rfl (And.intro rfl (And.intro rfl (And.intro rfl trivial)))))) (mbX7_waitingAt_b16 C hr  _ yd _ _ _ (by omega) (by omega) hR)
end
section
def mX7_canAdd_b143   (y : yz_Y)  : Option (yz_Y × Int32) := some (y, (1 : Int32))
def mX7_canAdd (a1 : Int32) (a2 : Int32) (a3 : Int32) (a4 : Int32) (y : yz_Y) : Option (yz_Y × Int32) := (if a2 < 0 then some (y, (0 : Int32)) else (if a2 ≤ (6 : Int32) then (if a2 = (2 : Int32) then (if a3 ≤ 0 then some (y, (0 : Int32)) else (if (21 : Int32) ≤ a3 then some (y, (0 : Int32)) else some (y, (1 : Int32)))) else (if a2 = (3 : Int32) then some (y, (1 : Int32)) else (if a2 = (4 : Int32) then (if a3 < 0 then some (y, (0 : Int32)) else (if (nI (y.2 3)) ≤ a3 then some (y, (0 : Int32)) else (if a3 = a1 then some (y, (0 : Int32)) else some (y, (1 : Int32))))) else (if a2 = (5 : Int32) then (if a3 < 0 then some (y, (0 : Int32)) else if xo_ix a1 (y.2 3) = true then if yz_is y (10 + (Int32.toNatClampNeg a1)) 1 = true then if yz_is y (20 + (Int32.toNatClampNeg a1)) 5 = true then (if (nI (y.2 (20 + (Int32.toNatClampNeg a1)))) < a3 then some (y, (0 : Int32)) else (if a4 ≤ 0 then some (y, (0 : Int32)) else (if (10 : Int32) ≤ a4 then some (y, (0 : Int32)) else some (y, (1 : Int32))))) else none else none else none) else (if a3 < 0 then some (y, (0 : Int32)) else if yz_is y 1 2 = true then (if (nI (y.2 1)) ≤ a3 then some (y, (0 : Int32)) else (if a2 = 0 then (if a4 < (-999 : Int32) then some (y, (0 : Int32)) else (if (999 : Int32) < a4 then some (y, (0 : Int32)) else mX7_canAdd_b143   y )) else mX7_canAdd_b143   y )) else none))))) else some (y, (0 : Int32))))
set_option maxHeartbeats 4000000 in
set_option maxRecDepth 100000 in
theorem mbX7_canAdd_b143 {p : Program} {l : Launch} {e : Env} {s : State} {m : MethodId} {args : Array Value} {below : List Frame} {meth : Method} {c : Code} {G : xw_G} (C : zj_C p s m args meth c G RX7 cX7_canAdd 5) (hr : meth.sig.returnType = (some .boolean)) {yS : Nat → Nat} {h : xw_M} {q : yz_Y × Int32}  {cells slots : Nat} (yd : Nat → Nat) (y : yz_Y)  (hc_x : cells + (0) ≤ 0) (hs_x : slots + (0) ≤ 0) (hR : mX7_canAdd_b143   y  = some q) : zj_X p l e { frames := 0, cells := 0, slots := 0, locals := 0 } s m args below meth c G 5 cells slots (MQ below (zc_Q G (zPo G (zCh 1 0) yS h q.1 (fun _ => some (.int q.2)))) args s 0 0 (xg_B G)) (yz_W G (zCh 1 0) yS yd h y) [none, none, none, none, none] 143 [] := by
  unfold mX7_canAdd_b143 at hR
  refine zr_iconst (v := 1) C dX7_canAdd_143 (by decide) ?_
  refine zr_goto (tgt := 148) C dX7_canAdd_144 (by decide) ?_
  exact zq_z C hr (Or.inr rfl) (by omega) (by omega) dX7_canAdd_148 hR
set_option maxHeartbeats 4000000 in
set_option maxRecDepth 100000 in
theorem zcX7_canAdd (l : Launch) (G : xw_G) {a1 : Int32} {a2 : Int32} {a3 : Int32} {a4 : Int32} {yS : Nat → Nat} {h : xw_M} {y : yz_Y} {q : yz_Y × Int32} (hR : mX7_canAdd  a1 a2 a3 a4 y = some q) : zc_G l G yX7_canAdd cX7_canAdd 5 (some .boolean) 0 0 0 0 [.ref (yS 0), .int a1, .int a2, .int a3, .int a4] (zPr G yS h y) (zPo G (zCh 1 0) yS h q.1 (fun _ => some (.int q.2))) := by
  refine zc_of (by decide +kernel) rfl (Nat.le_of_ble_eq_true rfl) ?_
  intro p e s m args below meth c C hr hP
  have C : zj_C p s m args meth c G RX7 cX7_canAdd 5 := C
  obtain ⟨yd, e9⟩ : ∃ yd : Nat → Nat, yd = yS := ⟨_, rfl⟩
  have e0 : yS 0 = yd 0 := by rw [e9]
  refine zr_eqH (Pr2 := yz_W G (zCh 1 0) yS yd h y) (fun H e => by rw [e, e9]; exact ⟨hP.1, hP.2.1, hP.2.2.1, fun _ _ => rfl⟩) ?_
  rw [e0]
  clear e0 e9 hP
  show zj_X p l e { frames := 0, cells := 0, slots := 0, locals := 0 } s m args below meth c G 5 0 0 (MQ below (zc_Q G (zPo G (zCh 1 0) yS h q.1 (fun _ => some (.int q.2)))) args s 0 0 (xg_B G)) (yz_W G (zCh 1 0) yS yd h y) [some (.ref (yd 0)), some (.int a1), some (.int a2), some (.int a3), some (.int a4)] 0 []
  unfold mX7_canAdd at hR
  refine zr_iload_n C dX7_canAdd_0 rfl ?_
  refine zr_if_lt (tgt := 10) C dX7_canAdd_1 (by decide) hR (fun hR => ?_) (fun hR => ?_)
  · refine zr_iconst (v := 0) C dX7_canAdd_10 (by decide) ?_
    exact zq_z C hr (Or.inl rfl) (by omega) (by omega) dX7_canAdd_11 hR
  · refine zr_iload_n C dX7_canAdd_4 rfl ?_
    refine zr_bipush (v := 6) C dX7_canAdd_5 (by decide) ?_
    refine zr_icmp_le (tgt := 12) C dX7_canAdd_7 (by decide) hR (fun hR => ?_) (fun hR => ?_)
    · refine zr_iload_n C dX7_canAdd_12 rfl ?_
      refine zr_iconst (v := 2) C dX7_canAdd_13 (by decide) ?_
      refine zr_icmp_ne (tgt := 33) C dX7_canAdd_14 (by decide) hR (fun hR => ?_) (fun hR => ?_)
      · refine zr_iload_n C dX7_canAdd_33 rfl ?_
        refine zr_iconst (v := 3) C dX7_canAdd_34 (by decide) ?_
        refine zr_icmp_ne (tgt := 40) C dX7_canAdd_35 (by decide) hR (fun hR => ?_) (fun hR => ?_)
        · refine zr_iload_n C dX7_canAdd_40 rfl ?_
          refine zr_iconst (v := 4) C dX7_canAdd_41 (by decide) ?_
          refine zr_icmp_ne (tgt := 69) C dX7_canAdd_42 (by decide) hR (fun hR => ?_) (fun hR => ?_)
          · refine zr_iload_n C dX7_canAdd_69 rfl ?_
            refine zr_iconst (v := 5) C dX7_canAdd_70 (by decide) ?_
            refine zr_icmp_ne (tgt := 110) C dX7_canAdd_71 (by decide) hR (fun hR => ?_) (fun hR => ?_)
            · refine zr_iload_n C dX7_canAdd_110 rfl ?_
              refine zr_if_lt (tgt := 147) C dX7_canAdd_111 (by decide) hR (fun hR => ?_) (fun hR => ?_)
              · refine zr_iconst (v := 0) C dX7_canAdd_147 (by decide) ?_
                exact zq_z C hr (Or.inl rfl) (by omega) (by omega) dX7_canAdd_148 hR
              · refine zr_iload_n C dX7_canAdd_114 rfl ?_
                refine zr_aload_n C dX7_canAdd_115 rfl ?_
                refine zr_getS C fl_RX7_7 rfl dX7_canAdd_116 ?_
                refine zr_alen2 C dX7_canAdd_119 hR (fun hR => ?_)
                refine zr_icmp_ge (tgt := 147) C dX7_canAdd_120 (by decide) hR (fun hR => ?_) (fun hR => ?_)
                · refine zr_iconst (v := 0) C dX7_canAdd_147 (by decide) ?_
                  exact zq_z C hr (Or.inl rfl) (by omega) (by omega) dX7_canAdd_148 hR
                · refine zr_iload_n C dX7_canAdd_123 rfl ?_
                  refine zr_if_ne (tgt := 143) C dX7_canAdd_124 (by decide) hR (fun hR => ?_) (fun hR => ?_)
                  · exact zr_sub (lv9 := [none, none, none, none, none]) trivial (mbX7_canAdd_b143 C hr  yd _ (by omega) (by omega) hR)
                  · refine zr_iload C dX7_canAdd_127 rfl ?_
                    refine zr_sipush (v := (-999)) C dX7_canAdd_129 (by decide) ?_
                    refine zr_icmp_lt (tgt := 147) C dX7_canAdd_132 (by decide) hR (fun hR => ?_) (fun hR => ?_)
                    · refine zr_iconst (v := 0) C dX7_canAdd_147 (by decide) ?_
                      exact zq_z C hr (Or.inl rfl) (by omega) (by omega) dX7_canAdd_148 hR
                    · refine zr_iload C dX7_canAdd_135 rfl ?_
                      refine zr_sipush (v := 999) C dX7_canAdd_137 (by decide) ?_
                      refine zr_icmp_gt (tgt := 147) C dX7_canAdd_140 (by decide) hR (fun hR => ?_) (fun hR => ?_)
                      · refine zr_iconst (v := 0) C dX7_canAdd_147 (by decide) ?_
                        exact zq_z C hr (Or.inl rfl) (by omega) (by omega) dX7_canAdd_148 hR
                      · exact zr_sub (lv9 := [none, none, none, none, none]) trivial (mbX7_canAdd_b143 C hr  yd _ (by omega) (by omega) hR)
            · refine zr_iload_n C dX7_canAdd_74 rfl ?_
              refine zr_if_lt (tgt := 108) C dX7_canAdd_75 (by decide) hR (fun hR => ?_) (fun hR => ?_)
              · refine zr_iconst (v := 0) C dX7_canAdd_108 (by decide) ?_
                exact zq_z C hr (Or.inl rfl) (by omega) (by omega) dX7_canAdd_109 hR
              · refine zr_iload_n C dX7_canAdd_78 rfl ?_
                refine zr_aload_n C dX7_canAdd_79 rfl ?_
                refine zr_getS C fl_RX7_20 rfl dX7_canAdd_80 ?_
                refine zr_iload_n C dX7_canAdd_83 rfl ?_
                refine zr_aald4 C dX7_canAdd_84 hR (fun hR => ?_)
                refine zr_getF C fl_RX7_43 rfl dX7_canAdd_85 hR (fun hR => ?_)
                refine zr_alen5 C dX7_canAdd_88 hR (fun hR => ?_)
                refine zr_icmp_gt (tgt := 108) C dX7_canAdd_89 (by decide) hR (fun hR => ?_) (fun hR => ?_)
                · refine zr_iconst (v := 0) C dX7_canAdd_108 (by decide) ?_
                  exact zq_z C hr (Or.inl rfl) (by omega) (by omega) dX7_canAdd_109 hR
                · refine zr_iload C dX7_canAdd_92 rfl ?_
                  refine zr_if_le (tgt := 108) C dX7_canAdd_94 (by decide) hR (fun hR => ?_) (fun hR => ?_)
                  · refine zr_iconst (v := 0) C dX7_canAdd_108 (by decide) ?_
                    exact zq_z C hr (Or.inl rfl) (by omega) (by omega) dX7_canAdd_109 hR
                  · refine zr_iload C dX7_canAdd_97 rfl ?_
                    refine zr_bipush (v := 10) C dX7_canAdd_99 (by decide) ?_
                    refine zr_icmp_ge (tgt := 108) C dX7_canAdd_101 (by decide) hR (fun hR => ?_) (fun hR => ?_)
                    · refine zr_iconst (v := 0) C dX7_canAdd_108 (by decide) ?_
                      exact zq_z C hr (Or.inl rfl) (by omega) (by omega) dX7_canAdd_109 hR
                    · refine zr_iconst (v := 1) C dX7_canAdd_104 (by decide) ?_
                      refine zr_goto (tgt := 109) C dX7_canAdd_105 (by decide) ?_
                      exact zq_z C hr (Or.inr rfl) (by omega) (by omega) dX7_canAdd_109 hR
          · refine zr_iload_n C dX7_canAdd_45 rfl ?_
            refine zr_if_lt (tgt := 67) C dX7_canAdd_46 (by decide) hR (fun hR => ?_) (fun hR => ?_)
            · refine zr_iconst (v := 0) C dX7_canAdd_67 (by decide) ?_
              exact zq_z C hr (Or.inl rfl) (by omega) (by omega) dX7_canAdd_68 hR
            · refine zr_iload_n C dX7_canAdd_49 rfl ?_
              refine zr_aload_n C dX7_canAdd_50 rfl ?_
              refine zr_getS C fl_RX7_20 rfl dX7_canAdd_51 ?_
              refine zr_alen4 C dX7_canAdd_54 ?_
              refine zr_icmp_ge (tgt := 67) C dX7_canAdd_55 (by decide) hR (fun hR => ?_) (fun hR => ?_)
              · refine zr_iconst (v := 0) C dX7_canAdd_67 (by decide) ?_
                exact zq_z C hr (Or.inl rfl) (by omega) (by omega) dX7_canAdd_68 hR
              · refine zr_iload_n C dX7_canAdd_58 rfl ?_
                refine zr_iload_n C dX7_canAdd_59 rfl ?_
                refine zr_icmp_eq (tgt := 67) C dX7_canAdd_60 (by decide) hR (fun hR => ?_) (fun hR => ?_)
                · refine zr_iconst (v := 0) C dX7_canAdd_67 (by decide) ?_
                  exact zq_z C hr (Or.inl rfl) (by omega) (by omega) dX7_canAdd_68 hR
                · refine zr_iconst (v := 1) C dX7_canAdd_63 (by decide) ?_
                  refine zr_goto (tgt := 68) C dX7_canAdd_64 (by decide) ?_
                  exact zq_z C hr (Or.inr rfl) (by omega) (by omega) dX7_canAdd_68 hR
        · refine zr_iconst (v := 1) C dX7_canAdd_38 (by decide) ?_
          exact zq_z C hr (Or.inr rfl) (by omega) (by omega) dX7_canAdd_39 hR
      · refine zr_iload_n C dX7_canAdd_17 rfl ?_
        refine zr_if_le (tgt := 31) C dX7_canAdd_18 (by decide) hR (fun hR => ?_) (fun hR => ?_)
        · refine zr_iconst (v := 0) C dX7_canAdd_31 (by decide) ?_
          exact zq_z C hr (Or.inl rfl) (by omega) (by omega) dX7_canAdd_32 hR
        · refine zr_iload_n C dX7_canAdd_21 rfl ?_
          refine zr_bipush (v := 21) C dX7_canAdd_22 (by decide) ?_
          refine zr_icmp_ge (tgt := 31) C dX7_canAdd_24 (by decide) hR (fun hR => ?_) (fun hR => ?_)
          · refine zr_iconst (v := 0) C dX7_canAdd_31 (by decide) ?_
            exact zq_z C hr (Or.inl rfl) (by omega) (by omega) dX7_canAdd_32 hR
          · refine zr_iconst (v := 1) C dX7_canAdd_27 (by decide) ?_
            refine zr_goto (tgt := 32) C dX7_canAdd_28 (by decide) ?_
            exact zq_z C hr (Or.inr rfl) (by omega) (by omega) dX7_canAdd_32 hR
    · refine zr_iconst (v := 0) C dX7_canAdd_10 (by decide) ?_
      exact zq_z C hr (Or.inl rfl) (by omega) (by omega) dX7_canAdd_11 hR
end
section
def mX7_done_b40 (K13 : yz_Y → Int32 → Int32 → Option (yz_Y × Int32)) (a3 : Int32) (a4 : Int32) (y : yz_Y) (as0 : Int32) (as1 : Int32) : Option (yz_Y × Int32) := K13 y ((as1 + as0)) ((a4 + 1))
def mX7_done_b13  (a3 : Int32) : Nat → yz_Y → Int32 → Int32 → Option (yz_Y × Int32)
  | 0, _, _, _ => none
  | n + 1, y, a1, a4 => (if a3 ≤ a4 then some (y, a1) else if xo_ix a4 (y.2 3) = true then if yz_is y (10 + (Int32.toNatClampNeg a4)) 1 = true then (if (y.1 (10 + (Int32.toNatClampNeg a4)) 4) = (5 : Int32) then mX7_done_b40 (mX7_done_b13  a3 n) (a3) (a4) y ((1 : Int32)) (a1) else mX7_done_b40 (mX7_done_b13  a3 n) (a3) (a4) y ((0 : Int32)) (a1)) else none else none)
def mX7_done  (y : yz_Y) : Option (yz_Y × Int32) := mX7_done_b13  ((nI (y.2 3))) xo_n y ((0 : Int32)) ((0 : Int32))
set_option maxHeartbeats 4000000 in
set_option maxRecDepth 100000 in
theorem mbX7_done_b40 {p : Program} {l : Launch} {e : Env} {s : State} {m : MethodId} {args : Array Value} {below : List Frame} {meth : Method} {c : Code} {G : xw_G} (C : zj_C p s m args meth c G RX7 cX7_done 6) (hr : meth.sig.returnType = (some .int)) {yS : Nat → Nat} {h : xw_M} {q : yz_Y × Int32} {NK13 MK13 : Nat} {K13 : yz_Y → Int32 → Int32 → Option (yz_Y × Int32)} {a3 : Int32} {a4 : Int32} (hK13 : ∀ {cells slots : Nat} (yd : Nat → Nat) (y : yz_Y) (a1 : Int32) (a4 : Int32), cells + NK13 ≤ 0 → slots + MK13 ≤ 0 → K13 y a1 a4 = some q → zj_X p l e { frames := 0, cells := 0, slots := 0, locals := 0 } s m args below meth c G 6 cells slots (MQ below (zc_Q G (zPo G (zCh 1 0) yS h q.1 (fun _ => some (.int q.2)))) args s 0 0 (xg_B G)) (yz_W G (zCh 1 0) yS yd h y) [none, some (.int a1), some (.ref (yd 3)), some (.int a3), some (.int a4), none] 13 []) {cells slots : Nat} (yd : Nat → Nat) (y : yz_Y) (as0 : Int32) (as1 : Int32) (hc_13 : cells + (0 + NK13) ≤ 0) (hs_13 : slots + (0 + MK13) ≤ 0) (hR : mX7_done_b40 K13 a3 a4 y as0 as1 = some q) : zj_X p l e { frames := 0, cells := 0, slots := 0, locals := 0 } s m args below meth c G 6 cells slots (MQ below (zc_Q G (zPo G (zCh 1 0) yS h q.1 (fun _ => some (.int q.2)))) args s 0 0 (xg_B G)) (yz_W G (zCh 1 0) yS yd h y) [none, none, some (.ref (yd 3)), some (.int a3), some (.int a4), none] 40 [.int as0, .int as1] := by
  unfold mX7_done_b40 at hR
  refine zr_iadd C dX7_done_40 ?_
  refine zr_istore_n C dX7_done_41 rfl (by decide) ?_
  refine zr_iinc (v := 1) C dX7_done_42 rfl (by decide) rfl (by decide) ?_
  refine zr_goto (tgt := 13) C dX7_done_45 (by decide) ?_
  exact zr_sub (lv9 := [none, some (.int (as1 + as0)), some (.ref (yd 3)), some (.int a3), some (.int (a4 + 1)), none]) (And.intro rfl (And.intro rfl (And.intro rfl (And.intro rfl trivial)))) (hK13 yd _ _ _ (by omega) (by omega) hR)
set_option maxHeartbeats 4000000 in
set_option maxRecDepth 100000 in
theorem mbX7_done_b13 {p : Program} {l : Launch} {e : Env} {s : State} {m : MethodId} {args : Array Value} {below : List Frame} {meth : Method} {c : Code} {G : xw_G} (C : zj_C p s m args meth c G RX7 cX7_done 6) (hr : meth.sig.returnType = (some .int)) {yS : Nat → Nat} {h : xw_M} {q : yz_Y × Int32} {a3 : Int32}  : ∀ (n : Nat) {cells slots : Nat} (yd : Nat → Nat) (y : yz_Y) (a1 : Int32) (a4 : Int32), cells + (0) ≤ 0 → slots + (0) ≤ 0 → mX7_done_b13  a3 n y a1 a4 = some q → zj_X p l e { frames := 0, cells := 0, slots := 0, locals := 0 } s m args below meth c G 6 cells slots (MQ below (zc_Q G (zPo G (zCh 1 0) yS h q.1 (fun _ => some (.int q.2)))) args s 0 0 (xg_B G)) (yz_W G (zCh 1 0) yS yd h y) [none, some (.int a1), some (.ref (yd 3)), some (.int a3), some (.int a4), none] 13 [] := by
  intro n
  induction n with
  | zero => intro cells slots yd y a1 a4 hc_x hs_x hR; exact absurd (show (none : Option (yz_Y × Int32)) = some q from hR) (fun z => by cases z)
  | succ n ih =>
    intro cells slots yd y a1 a4 hc_x hs_x hR
    rw [mX7_done_b13.eq_2] at hR
    refine zr_iload C dX7_done_13 rfl ?_
    refine zr_iload_n C dX7_done_15 rfl ?_
    refine zr_icmp_ge (tgt := 48) C dX7_done_16 (by decide) hR (fun hR => ?_) (fun hR => ?_)
    · refine zr_iload_n C dX7_done_48 rfl ?_
      exact zq_i C hr (by omega) (by omega) dX7_done_49 hR
    · refine zr_aload_n C dX7_done_19 rfl ?_
      refine zr_iload C dX7_done_20 rfl ?_
      refine zr_aald4 C dX7_done_22 hR (fun hR => ?_)
      refine zr_astore C dX7_done_23 rfl (by decide) ?_
      refine zr_iload_n C dX7_done_25 rfl ?_
      refine zr_aload C dX7_done_26 rfl ?_
      refine zr_getF C fl_RX7_55 rfl dX7_done_28 hR (fun hR => ?_)
      refine zr_iconst (v := 5) C dX7_done_31 (by decide) ?_
      refine zr_icmp_ne (tgt := 39) C dX7_done_32 (by decide) hR (fun hR => ?_) (fun hR => ?_)
      · refine zr_iconst (v := 0) C dX7_done_39 (by decide) ?_
        exact zr_sub (lv9 := [none, none, some (.ref (yd 3)), some (.int a3), some (.int a4), none]) (And.intro rfl (And.intro rfl (And.intro rfl trivial))) (mbX7_done_b40 C hr (NK13 := (0)) (MK13 := (0)) (fun yd y z1 z4 h1 h2 h3 => ih yd y z1 z4 (by omega) (by omega) h3) yd _ _ _ (by omega) (by omega) hR)
      · refine zr_iconst (v := 1) C dX7_done_35 (by decide) ?_
        refine zr_goto (tgt := 40) C dX7_done_36 (by decide) ?_
        exact zr_sub (lv9 := [none, none, some (.ref (yd 3)), some (.int a3), some (.int a4), none]) (And.intro rfl (And.intro rfl (And.intro rfl trivial))) (mbX7_done_b40 C hr (NK13 := (0)) (MK13 := (0)) (fun yd y z1 z4 h1 h2 h3 => ih yd y z1 z4 (by omega) (by omega) h3) yd _ _ _ (by omega) (by omega) hR)
set_option maxHeartbeats 4000000 in
set_option maxRecDepth 100000 in
theorem zcX7_done (l : Launch) (G : xw_G)  {yS : Nat → Nat} {h : xw_M} {y : yz_Y} {q : yz_Y × Int32} (hR : mX7_done   y = some q) : zc_G l G yX7_done cX7_done 6 (some .int) 0 0 0 0 [.ref (yS 0)] (zPr G yS h y) (zPo G (zCh 1 0) yS h q.1 (fun _ => some (.int q.2))) := by
  refine zc_of (by decide +kernel) rfl (Nat.le_of_ble_eq_true rfl) ?_
  intro p e s m args below meth c C hr hP
  have C : zj_C p s m args meth c G RX7 cX7_done 6 := C
  obtain ⟨yd, e9⟩ : ∃ yd : Nat → Nat, yd = yS := ⟨_, rfl⟩
  have e0 : yS 0 = yd 0 := by rw [e9]
  refine zr_eqH (Pr2 := yz_W G (zCh 1 0) yS yd h y) (fun H e => by rw [e, e9]; exact ⟨hP.1, hP.2.1, hP.2.2.1, fun _ _ => rfl⟩) ?_
  rw [e0]
  clear e0 e9 hP
  show zj_X p l e { frames := 0, cells := 0, slots := 0, locals := 0 } s m args below meth c G 6 0 0 (MQ below (zc_Q G (zPo G (zCh 1 0) yS h q.1 (fun _ => some (.int q.2)))) args s 0 0 (xg_B G)) (yz_W G (zCh 1 0) yS yd h y) [some (.ref (yd 0)), none, none, none, none, none] 0 []
  unfold mX7_done at hR
  refine zr_iconst (v := 0) C dX7_done_0 (by decide) ?_
  refine zr_istore_n C dX7_done_1 rfl (by decide) ?_
  refine zr_aload_n C dX7_done_2 rfl ?_
  refine zr_getS C fl_RX7_20 rfl dX7_done_3 ?_
  refine zr_astore_n C dX7_done_6 rfl (by decide) ?_
  refine zr_aload_n C dX7_done_7 rfl ?_
  refine zr_alen4 C dX7_done_8 ?_
  refine zr_istore_n C dX7_done_9 rfl (by decide) ?_
  refine zr_iconst (v := 0) C dX7_done_10 (by decide) ?_
  refine zr_istore C dX7_done_11 rfl (by decide) ?_
  exact zr_sub (lv9 := [none, some (.int (0 : Int32)), some (.ref (yd 3)), some (.int (nI (y.2 3))), some (.int (0 : Int32)), none]) (And.intro rfl (And.intro rfl (And.intro rfl (And.intro rfl trivial)))) (mbX7_done_b13 C hr  _ yd _ _ _ (by omega) (by omega) hR)
end
section
def mX7_isStuck_b59 (K13 : yz_Y → Int32 → Int32 → Option (yz_Y × Int32)) (a3 : Int32) (a4 : Int32) (y : yz_Y) (as0 : Int32) (as1 : Int32) : Option (yz_Y × Int32) := K13 y ((as1 ||| as0)) ((a4 + 1))
def mX7_isStuck_b13  (a3 : Int32) : Nat → yz_Y → Int32 → Int32 → Option (yz_Y × Int32)
  | 0, _, _, _ => none
  | n + 1, y, a1, a4 => (if a3 ≤ a4 then (if a1 = 0 ∨ a1 = 1 then some (y, a1) else none) else if xo_ix a4 (y.2 3) = true then if yz_is y (10 + (Int32.toNatClampNeg a4)) 1 = true then (if (y.1 (10 + (Int32.toNatClampNeg a4)) 4) = 0 then some (y, (0 : Int32)) else if yz_is y (10 + (Int32.toNatClampNeg a4)) 1 = true then (if (y.1 (10 + (Int32.toNatClampNeg a4)) 4) = (3 : Int32) then some (y, (0 : Int32)) else if yz_is y (10 + (Int32.toNatClampNeg a4)) 1 = true then (if (y.1 (10 + (Int32.toNatClampNeg a4)) 4) = (5 : Int32) then mX7_isStuck_b59 (mX7_isStuck_b13  a3 n) (a3) (a4) y ((0 : Int32)) (a1) else mX7_isStuck_b59 (mX7_isStuck_b13  a3 n) (a3) (a4) y ((1 : Int32)) (a1)) else none) else none) else none else none)
def mX7_isStuck  (y : yz_Y) : Option (yz_Y × Int32) := mX7_isStuck_b13  ((nI (y.2 3))) xo_n y ((0 : Int32)) ((0 : Int32))
set_option maxHeartbeats 4000000 in
set_option maxRecDepth 100000 in
theorem mbX7_isStuck_b59 {p : Program} {l : Launch} {e : Env} {s : State} {m : MethodId} {args : Array Value} {below : List Frame} {meth : Method} {c : Code} {G : xw_G} (C : zj_C p s m args meth c G RX7 cX7_isStuck 6) (hr : meth.sig.returnType = (some .boolean)) {yS : Nat → Nat} {h : xw_M} {q : yz_Y × Int32} {NK13 MK13 : Nat} {K13 : yz_Y → Int32 → Int32 → Option (yz_Y × Int32)} {a3 : Int32} {a4 : Int32} (hK13 : ∀ {cells slots : Nat} (yd : Nat → Nat) (y : yz_Y) (a1 : Int32) (a4 : Int32), cells + NK13 ≤ 0 → slots + MK13 ≤ 0 → K13 y a1 a4 = some q → zj_X p l e { frames := 0, cells := 0, slots := 0, locals := 0 } s m args below meth c G 6 cells slots (MQ below (zc_Q G (zPo G (zCh 1 0) yS h q.1 (fun _ => some (.int q.2)))) args s 0 0 (xg_B G)) (yz_W G (zCh 1 0) yS yd h y) [none, some (.int a1), some (.ref (yd 3)), some (.int a3), some (.int a4), none] 13 []) {cells slots : Nat} (yd : Nat → Nat) (y : yz_Y) (as0 : Int32) (as1 : Int32) (hc_13 : cells + (0 + NK13) ≤ 0) (hs_13 : slots + (0 + MK13) ≤ 0) (hR : mX7_isStuck_b59 K13 a3 a4 y as0 as1 = some q) : zj_X p l e { frames := 0, cells := 0, slots := 0, locals := 0 } s m args below meth c G 6 cells slots (MQ below (zc_Q G (zPo G (zCh 1 0) yS h q.1 (fun _ => some (.int q.2)))) args s 0 0 (xg_B G)) (yz_W G (zCh 1 0) yS yd h y) [none, none, some (.ref (yd 3)), some (.int a3), some (.int a4), none] 59 [.int as0, .int as1] := by
  unfold mX7_isStuck_b59 at hR
  refine zr_ior C dX7_isStuck_59 ?_
  refine zr_istore_n C dX7_isStuck_60 rfl (by decide) ?_
  refine zr_iinc (v := 1) C dX7_isStuck_61 rfl (by decide) rfl (by decide) ?_
  refine zr_goto (tgt := 13) C dX7_isStuck_64 (by decide) ?_
  exact zr_sub (lv9 := [none, some (.int (as1 ||| as0)), some (.ref (yd 3)), some (.int a3), some (.int (a4 + 1)), none]) (And.intro rfl (And.intro rfl (And.intro rfl (And.intro rfl trivial)))) (hK13 yd _ _ _ (by omega) (by omega) hR)
set_option maxHeartbeats 4000000 in
set_option maxRecDepth 100000 in
theorem mbX7_isStuck_b13 {p : Program} {l : Launch} {e : Env} {s : State} {m : MethodId} {args : Array Value} {below : List Frame} {meth : Method} {c : Code} {G : xw_G} (C : zj_C p s m args meth c G RX7 cX7_isStuck 6) (hr : meth.sig.returnType = (some .boolean)) {yS : Nat → Nat} {h : xw_M} {q : yz_Y × Int32} {a3 : Int32}  : ∀ (n : Nat) {cells slots : Nat} (yd : Nat → Nat) (y : yz_Y) (a1 : Int32) (a4 : Int32), cells + (0) ≤ 0 → slots + (0) ≤ 0 → mX7_isStuck_b13  a3 n y a1 a4 = some q → zj_X p l e { frames := 0, cells := 0, slots := 0, locals := 0 } s m args below meth c G 6 cells slots (MQ below (zc_Q G (zPo G (zCh 1 0) yS h q.1 (fun _ => some (.int q.2)))) args s 0 0 (xg_B G)) (yz_W G (zCh 1 0) yS yd h y) [none, some (.int a1), some (.ref (yd 3)), some (.int a3), some (.int a4), none] 13 [] := by
  intro n
  induction n with
  | zero => intro cells slots yd y a1 a4 hc_x hs_x hR; exact absurd (show (none : Option (yz_Y × Int32)) = some q from hR) (fun z => by cases z)
  | succ n ih =>
    intro cells slots yd y a1 a4 hc_x hs_x hR
    rw [mX7_isStuck_b13.eq_2] at hR
    refine zr_iload C dX7_isStuck_13 rfl ?_
    refine zr_iload_n C dX7_isStuck_15 rfl ?_
    refine zr_icmp_ge (tgt := 67) C dX7_isStuck_16 (by decide) hR (fun hR => ?_) (fun hR => ?_)
    · refine zr_iload_n C dX7_isStuck_67 rfl ?_
      exact zq_zG C hr (by omega) (by omega) dX7_isStuck_68 hR
    · refine zr_aload_n C dX7_isStuck_19 rfl ?_
      refine zr_iload C dX7_isStuck_20 rfl ?_
      refine zr_aald4 C dX7_isStuck_22 hR (fun hR => ?_)
      refine zr_astore C dX7_isStuck_23 rfl (by decide) ?_
      refine zr_aload C dX7_isStuck_25 rfl ?_
      refine zr_getF C fl_RX7_55 rfl dX7_isStuck_27 hR (fun hR => ?_)
      refine zr_if_eq (tgt := 42) C dX7_isStuck_30 (by decide) hR (fun hR => ?_) (fun hR => ?_)
      · refine zr_iconst (v := 0) C dX7_isStuck_42 (by decide) ?_
        exact zq_z C hr (Or.inl rfl) (by omega) (by omega) dX7_isStuck_43 hR
      · refine zr_aload C dX7_isStuck_33 rfl ?_
        refine zr_getF C fl_RX7_55 rfl dX7_isStuck_35 hR (fun hR => ?_)
        refine zr_iconst (v := 3) C dX7_isStuck_38 (by decide) ?_
        refine zr_icmp_ne (tgt := 44) C dX7_isStuck_39 (by decide) hR (fun hR => ?_) (fun hR => ?_)
        · refine zr_iload_n C dX7_isStuck_44 rfl ?_
          refine zr_aload C dX7_isStuck_45 rfl ?_
          refine zr_getF C fl_RX7_55 rfl dX7_isStuck_47 hR (fun hR => ?_)
          refine zr_iconst (v := 5) C dX7_isStuck_50 (by decide) ?_
          refine zr_icmp_eq (tgt := 58) C dX7_isStuck_51 (by decide) hR (fun hR => ?_) (fun hR => ?_)
          · refine zr_iconst (v := 0) C dX7_isStuck_58 (by decide) ?_
            exact zr_sub (lv9 := [none, none, some (.ref (yd 3)), some (.int a3), some (.int a4), none]) (And.intro rfl (And.intro rfl (And.intro rfl trivial))) (mbX7_isStuck_b59 C hr (NK13 := (0)) (MK13 := (0)) (fun yd y z1 z4 h1 h2 h3 => ih yd y z1 z4 (by omega) (by omega) h3) yd _ _ _ (by omega) (by omega) hR)
          · refine zr_iconst (v := 1) C dX7_isStuck_54 (by decide) ?_
            refine zr_goto (tgt := 59) C dX7_isStuck_55 (by decide) ?_
            exact zr_sub (lv9 := [none, none, some (.ref (yd 3)), some (.int a3), some (.int a4), none]) (And.intro rfl (And.intro rfl (And.intro rfl trivial))) (mbX7_isStuck_b59 C hr (NK13 := (0)) (MK13 := (0)) (fun yd y z1 z4 h1 h2 h3 => ih yd y z1 z4 (by omega) (by omega) h3) yd _ _ _ (by omega) (by omega) hR)
        · refine zr_iconst (v := 0) C dX7_isStuck_42 (by decide) ?_
          exact zq_z C hr (Or.inl rfl) (by omega) (by omega) dX7_isStuck_43 hR
set_option maxHeartbeats 4000000 in
set_option maxRecDepth 100000 in
theorem zcX7_isStuck (l : Launch) (G : xw_G)  {yS : Nat → Nat} {h : xw_M} {y : yz_Y} {q : yz_Y × Int32} (hR : mX7_isStuck   y = some q) : zc_G l G yX7_isStuck cX7_isStuck 6 (some .boolean) 0 0 0 0 [.ref (yS 0)] (zPr G yS h y) (zPo G (zCh 1 0) yS h q.1 (fun _ => some (.int q.2))) := by
  refine zc_of (by decide +kernel) rfl (Nat.le_of_ble_eq_true rfl) ?_
  intro p e s m args below meth c C hr hP
  have C : zj_C p s m args meth c G RX7 cX7_isStuck 6 := C
  obtain ⟨yd, e9⟩ : ∃ yd : Nat → Nat, yd = yS := ⟨_, rfl⟩
  have e0 : yS 0 = yd 0 := by rw [e9]
  refine zr_eqH (Pr2 := yz_W G (zCh 1 0) yS yd h y) (fun H e => by rw [e, e9]; exact ⟨hP.1, hP.2.1, hP.2.2.1, fun _ _ => rfl⟩) ?_
  rw [e0]
  clear e0 e9 hP
  show zj_X p l e { frames := 0, cells := 0, slots := 0, locals := 0 } s m args below meth c G 6 0 0 (MQ below (zc_Q G (zPo G (zCh 1 0) yS h q.1 (fun _ => some (.int q.2)))) args s 0 0 (xg_B G)) (yz_W G (zCh 1 0) yS yd h y) [some (.ref (yd 0)), none, none, none, none, none] 0 []
  unfold mX7_isStuck at hR
  refine zr_iconst (v := 0) C dX7_isStuck_0 (by decide) ?_
  refine zr_istore_n C dX7_isStuck_1 rfl (by decide) ?_
  refine zr_aload_n C dX7_isStuck_2 rfl ?_
  refine zr_getS C fl_RX7_20 rfl dX7_isStuck_3 ?_
  refine zr_astore_n C dX7_isStuck_6 rfl (by decide) ?_
  refine zr_aload_n C dX7_isStuck_7 rfl ?_
  refine zr_alen4 C dX7_isStuck_8 ?_
  refine zr_istore_n C dX7_isStuck_9 rfl (by decide) ?_
  refine zr_iconst (v := 0) C dX7_isStuck_10 (by decide) ?_
  refine zr_istore C dX7_isStuck_11 rfl (by decide) ?_
  exact zr_sub (lv9 := [none, some (.int (0 : Int32)), some (.ref (yd 3)), some (.int (nI (y.2 3))), some (.int (0 : Int32)), none]) (And.intro rfl (And.intro rfl (And.intro rfl (And.intro rfl trivial)))) (mbX7_isStuck_b13 C hr  _ yd _ _ _ (by omega) (by omega) hR)
end
section
def mX7_wake_b80 (K2 : yz_Y → Int32 → Option (yz_Y × Unit)) (a1 : Int32) (a2 : Int32) (a3 : Int32) (y : yz_Y)  : Option (yz_Y × Unit) := K2 y ((a3 + 1))
def mX7_wake_b2  (a1 : Int32) (a2 : Int32) : Nat → yz_Y → Int32 → Option (yz_Y × Unit)
  | 0, _, _ => none
  | n + 1, y, a3 => if yz_is y 5 2 = true then (if (nI (y.2 5)) ≤ a3 then some (y, ()) else if (yz_is y 5 2 && xo_ix a3 (y.2 5)) = true then if xo_ix (y.1 5 (Int32.toNatClampNeg a3)) (y.2 3) = true then if yz_is y (10 + (Int32.toNatClampNeg (y.1 5 (Int32.toNatClampNeg a3)))) 1 = true then (if (y.1 (10 + (Int32.toNatClampNeg (y.1 5 (Int32.toNatClampNeg a3)))) 4) = a1 then if yz_is y (10 + (Int32.toNatClampNeg (y.1 5 (Int32.toNatClampNeg a3)))) 1 = true then if yz_is y (10 + (Int32.toNatClampNeg (y.1 5 (Int32.toNatClampNeg a3)))) 1 = true then if (yz_is y (20 + (Int32.toNatClampNeg (y.1 5 (Int32.toNatClampNeg a3)))) 5 && xo_ix (y.1 (10 + (Int32.toNatClampNeg (y.1 5 (Int32.toNatClampNeg a3)))) 2) (y.2 (20 + (Int32.toNatClampNeg (y.1 5 (Int32.toNatClampNeg a3)))))) = true then if (yz_is y (40 + (12 * (Int32.toNatClampNeg (y.1 5 (Int32.toNatClampNeg a3))) + (Int32.toNatClampNeg (y.1 (10 + (Int32.toNatClampNeg (y.1 5 (Int32.toNatClampNeg a3)))) 2)))) 2 && xo_ix (1 : Int32) (y.2 (40 + (12 * (Int32.toNatClampNeg (y.1 5 (Int32.toNatClampNeg a3))) + (Int32.toNatClampNeg (y.1 (10 + (Int32.toNatClampNeg (y.1 5 (Int32.toNatClampNeg a3)))) 2)))))) = true then (if (y.1 (40 + (12 * (Int32.toNatClampNeg (y.1 5 (Int32.toNatClampNeg a3))) + (Int32.toNatClampNeg (y.1 (10 + (Int32.toNatClampNeg (y.1 5 (Int32.toNatClampNeg a3)))) 2)))) (Int32.toNatClampNeg (1 : Int32))) = a2 then if (yz_is y 5 2 && xo_ix a3 (y.2 5)) = true then if (yz_is y 5 2 && decide (y.2 5 ≤ 13) && xo_ix a3 (y.2 5)) = true then (xo_let (yz_rem y 5 a3) fun y1 => (mX7_ready  (y.1 5 (Int32.toNatClampNeg a3)) y1).bind fun r4 => some (r4.1, ())) else none else none else mX7_wake_b80 (mX7_wake_b2  a1 a2 n) (a1) (a2) (a3) y ) else none else none else none else none else mX7_wake_b80 (mX7_wake_b2  a1 a2 n) (a1) (a2) (a3) y ) else none else none else none) else none
def mX7_wake (a1 : Int32) (a2 : Int32) (y : yz_Y) : Option (yz_Y × Unit) := mX7_wake_b2  (a1) (a2) xo_n y ((0 : Int32))
set_option maxHeartbeats 4000000 in
set_option maxRecDepth 100000 in
theorem mbX7_wake_b80 {p : Program} {l : Launch} {e : Env} {s : State} {m : MethodId} {args : Array Value} {below : List Frame} {meth : Method} {c : Code} {G : xw_G} (C : zj_C p s m args meth c G RX7 cX7_wake 6) (hr : meth.sig.returnType = none) {yS : Nat → Nat} {h : xw_M} {q : yz_Y × Unit} {NK2 MK2 : Nat} {K2 : yz_Y → Int32 → Option (yz_Y × Unit)} {a1 : Int32} {a2 : Int32} {a3 : Int32} (hK2 : ∀ {cells slots : Nat} (yd : Nat → Nat) (y : yz_Y) (a3 : Int32), cells + NK2 ≤ 2 → slots + MK2 ≤ 26 → K2 y a3 = some q → zj_X p l e { frames := 2, cells := 2, slots := 26, locals := 44 } s m args below meth c G 6 cells slots (MQ below (zc_Q G (zPo G (zCh 4 5) yS h q.1 (fun _ => none))) args s 2 26 (xg_B G)) (yz_W G (zCh 4 5) yS yd h y) [some (.ref (yd 0)), some (.int a1), some (.int a2), some (.int a3), none, none] 2 []) {cells slots : Nat} (yd : Nat → Nat) (y : yz_Y)  (hc_2 : cells + (0 + NK2) ≤ 2) (hs_2 : slots + (0 + MK2) ≤ 26) (hR : mX7_wake_b80 K2 a1 a2 a3 y  = some q) : zj_X p l e { frames := 2, cells := 2, slots := 26, locals := 44 } s m args below meth c G 6 cells slots (MQ below (zc_Q G (zPo G (zCh 4 5) yS h q.1 (fun _ => none))) args s 2 26 (xg_B G)) (yz_W G (zCh 4 5) yS yd h y) [some (.ref (yd 0)), some (.int a1), some (.int a2), some (.int a3), none, none] 80 [] := by
  unfold mX7_wake_b80 at hR
  refine zr_iinc (v := 1) C dX7_wake_80 rfl (by decide) rfl (by decide) ?_
  refine zr_goto (tgt := 2) C dX7_wake_83 (by decide) ?_
  exact zr_sub (lv9 := [some (.ref (yd 0)), some (.int a1), some (.int a2), some (.int (a3 + 1)), none, none]) (And.intro rfl (And.intro rfl (And.intro rfl (And.intro rfl trivial)))) (hK2 yd _ _ (by omega) (by omega) hR)
set_option maxHeartbeats 4000000 in
set_option maxRecDepth 100000 in
theorem mbX7_wake_b2 {p : Program} {l : Launch} {e : Env} {s : State} {m : MethodId} {args : Array Value} {below : List Frame} {meth : Method} {c : Code} {G : xw_G} (C : zj_C p s m args meth c G RX7 cX7_wake 6) (hr : meth.sig.returnType = none) {yS : Nat → Nat} {h : xw_M} {q : yz_Y × Unit} {a1 : Int32} {a2 : Int32}  : ∀ (n : Nat) {cells slots : Nat} (yd : Nat → Nat) (y : yz_Y) (a3 : Int32), cells + (2) ≤ 2 → slots + (26) ≤ 26 → mX7_wake_b2  a1 a2 n y a3 = some q → zj_X p l e { frames := 2, cells := 2, slots := 26, locals := 44 } s m args below meth c G 6 cells slots (MQ below (zc_Q G (zPo G (zCh 4 5) yS h q.1 (fun _ => none))) args s 2 26 (xg_B G)) (yz_W G (zCh 4 5) yS yd h y) [some (.ref (yd 0)), some (.int a1), some (.int a2), some (.int a3), none, none] 2 [] := by
  intro n
  induction n with
  | zero => intro cells slots yd y a3 hc_x hs_x hR; exact absurd (show (none : Option (yz_Y × Unit)) = some q from hR) (fun z => by cases z)
  | succ n ih =>
    intro cells slots yd y a3 hc_x hs_x hR
    rw [mX7_wake_b2.eq_2] at hR
    refine zr_iload_n C dX7_wake_2 rfl ?_
    refine zr_aload_n C dX7_wake_3 rfl ?_
    refine zr_getS C fl_RX7_27 rfl dX7_wake_4 ?_
    refine zr_alen2 C dX7_wake_7 hR (fun hR => ?_)
    refine zr_icmp_ge (tgt := 86) C dX7_wake_8 (by decide) hR (fun hR => ?_) (fun hR => ?_)
    · exact zq_v C hr (by omega) (by omega) dX7_wake_86 hR
    · refine zr_aload_n C dX7_wake_11 rfl ?_
      refine zr_getS C fl_RX7_20 rfl dX7_wake_12 ?_
      refine zr_aload_n C dX7_wake_15 rfl ?_
      refine zr_getS C fl_RX7_27 rfl dX7_wake_16 ?_
      refine zr_iload_n C dX7_wake_19 rfl ?_
      refine zr_iald C dX7_wake_20 hR (fun hR => ?_)
      refine zr_aald4 C dX7_wake_21 hR (fun hR => ?_)
      refine zr_astore C dX7_wake_22 rfl (by decide) ?_
      refine zr_aload C dX7_wake_24 rfl ?_
      refine zr_getF C fl_RX7_55 rfl dX7_wake_26 hR (fun hR => ?_)
      refine zr_iload_n C dX7_wake_29 rfl ?_
      refine zr_icmp_ne (tgt := 80) C dX7_wake_30 (by decide) hR (fun hR => ?_) (fun hR => ?_)
      · exact zr_sub (lv9 := [some (.ref (yd 0)), some (.int a1), some (.int a2), some (.int a3), none, none]) (And.intro rfl (And.intro rfl (And.intro rfl (And.intro rfl trivial)))) (mbX7_wake_b80 C hr (NK2 := (2)) (MK2 := (26)) (fun yd y z3 h1 h2 h3 => ih yd y z3 (by omega) (by omega) h3) yd _ (by omega) (by omega) hR)
      · refine zr_aload C dX7_wake_33 rfl ?_
        refine zr_getF C fl_RX7_43 rfl dX7_wake_35 hR (fun hR => ?_)
        refine zr_aload C dX7_wake_38 rfl ?_
        refine zr_getF C fl_RX7_49 rfl dX7_wake_40 hR (fun hR => ?_)
        refine zr_aald5 C dX7_wake_43 hR (fun hR => ?_)
        refine zr_iconst (v := 1) C dX7_wake_44 (by decide) ?_
        refine zr_iald C dX7_wake_45 hR (fun hR => ?_)
        refine zr_iload_n C dX7_wake_46 rfl ?_
        refine zr_icmp_eq (tgt := 53) C dX7_wake_47 (by decide) hR (fun hR => ?_) (fun hR => ?_)
        · refine zr_aload_n C dX7_wake_53 rfl ?_
          refine zr_getS C fl_RX7_27 rfl dX7_wake_54 ?_
          refine zr_iload_n C dX7_wake_57 rfl ?_
          refine zr_iald C dX7_wake_58 hR (fun hR => ?_)
          refine zr_istore C dX7_wake_59 rfl (by decide) ?_
          refine zr_aload_n C dX7_wake_61 rfl ?_
          refine zr_aload_n C dX7_wake_62 rfl ?_
          refine zr_getS C fl_RX7_27 rfl dX7_wake_63 ?_
          refine zr_iload_n C dX7_wake_66 rfl ?_
          refine zr_withoutS C (by decide) ⟨by omega, by omega⟩ cs_RX7_75 fl_RX7_27 zpr_7_6 ⟨Nat.le_of_ble_eq_true rfl, Nat.le_of_ble_eq_true rfl⟩ (Nat.le_of_ble_eq_true rfl) ⟨by show _ ≤ 2; omega, by show _ ≤ 26; omega⟩ dX7_wake_67 dX7_wake_70 hR (fun y1 hR yd2 hy3 => ?_)
          rw [← hy3 0 (by omega)]
          refine zr_aload_n C dX7_wake_73 rfl ?_
          refine zr_iload C dX7_wake_74 rfl ?_
          refine zr_callVv C (st := []) [.int (y.1 5 (Int32.toNatClampNeg a3))] cv_RX7_71 (fun k z => ⟨by have z1 := z.1; omega, by have z2 := z.2; omega⟩) (fun _ zz => zcX7_ready l G zz) rfl ⟨Nat.le_of_ble_eq_true rfl, Nat.le_of_ble_eq_true rfl⟩ (Nat.le_of_ble_eq_true rfl) ⟨by show _ ≤ 2; omega, by show _ ≤ 26; omega⟩ rfl dX7_wake_76 hR (fun r4 hr4 hR yd5 hy6 => ?_)
          exact zq_v C hr (by omega) (by omega) dX7_wake_79 hR
        · refine zr_goto (tgt := 80) C dX7_wake_50 (by decide) ?_
          exact zr_sub (lv9 := [some (.ref (yd 0)), some (.int a1), some (.int a2), some (.int a3), none, none]) (And.intro rfl (And.intro rfl (And.intro rfl (And.intro rfl trivial)))) (mbX7_wake_b80 C hr (NK2 := (2)) (MK2 := (26)) (fun yd y z3 h1 h2 h3 => ih yd y z3 (by omega) (by omega) h3) yd _ (by omega) (by omega) hR)
set_option maxHeartbeats 4000000 in
set_option maxRecDepth 100000 in
theorem zcX7_wake (l : Launch) (G : xw_G) {a1 : Int32} {a2 : Int32} {yS : Nat → Nat} {h : xw_M} {y : yz_Y} {q : yz_Y × Unit} (hR : mX7_wake  a1 a2 y = some q) : zc_G l G yX7_wake cX7_wake 6 none 2 44 2 26 [.ref (yS 0), .int a1, .int a2] (zPr G yS h y) (zPo G (zCh 4 5) yS h q.1 (fun _ => none)) := by
  refine zc_of (by decide +kernel) rfl (Nat.le_of_ble_eq_true rfl) ?_
  intro p e s m args below meth c C hr hP
  have C : zj_C p s m args meth c G RX7 cX7_wake 6 := C
  obtain ⟨yd, e9⟩ : ∃ yd : Nat → Nat, yd = yS := ⟨_, rfl⟩
  have e0 : yS 0 = yd 0 := by rw [e9]
  refine zr_eqH (Pr2 := yz_W G (zCh 4 5) yS yd h y) (fun H e => by rw [e, e9]; exact ⟨hP.1, hP.2.1, hP.2.2.1, fun _ _ => rfl⟩) ?_
  rw [e0]
  clear e0 e9 hP
  show zj_X p l e { frames := 2, cells := 2, slots := 26, locals := 44 } s m args below meth c G 6 0 0 (MQ below (zc_Q G (zPo G (zCh 4 5) yS h q.1 (fun _ => none))) args s 2 26 (xg_B G)) (yz_W G (zCh 4 5) yS yd h y) [some (.ref (yd 0)), some (.int a1), some (.int a2), none, none, none] 0 []
  unfold mX7_wake at hR
  refine zr_iconst (v := 0) C dX7_wake_0 (by decide) ?_
  refine zr_istore_n C dX7_wake_1 rfl (by decide) ?_
  exact zr_sub (lv9 := [some (.ref (yd 0)), some (.int a1), some (.int a2), some (.int (0 : Int32)), none, none]) (And.intro rfl (And.intro rfl (And.intro rfl (And.intro rfl trivial)))) (mbX7_wake_b2 C hr  _ yd _ _ (by omega) (by omega) hR)
end
section
def mX7_isSent (a1 : Int32) (a2 : Int32) (y : yz_Y) : Option (yz_Y × Int32) := if xo_ix a1 (y.2 2) = true then if yz_is y (6 + (Int32.toNatClampNeg a1)) 2 = true then if (yz_is y 1 2 && xo_ix a1 (y.2 1)) = true then (if (nI (y.2 (6 + (Int32.toNatClampNeg a1)))) < (y.1 1 (Int32.toNatClampNeg a1)) then if xo_ix a1 (y.2 2) = true then if (xo_ix a1 (y.2 2) && (yz_is y (6 + (Int32.toNatClampNeg a1)) 2 && decide (y.2 (6 + (Int32.toNatClampNeg a1)) ≤ 12))) = true then (xo_let (yz_app y (6 + (Int32.toNatClampNeg a1)) a2) fun y1 => (mX7_wake  (2 : Int32) a1 y1).bind fun r4 => some (r4.1, (1 : Int32))) else none else none else some (y, (0 : Int32))) else none else none else none
set_option maxHeartbeats 4000000 in
set_option maxRecDepth 100000 in
theorem zcX7_isSent (l : Launch) (G : xw_G) {a1 : Int32} {a2 : Int32} {yS : Nat → Nat} {h : xw_M} {y : yz_Y} {q : yz_Y × Int32} (hR : mX7_isSent  a1 a2 y = some q) : zc_G l G yX7_isSent cX7_isSent 3 (some .boolean) 3 69 3 39 [.ref (yS 0), .int a1, .int a2] (zPr G yS h y) (zPo G (zCh 4 9) yS h q.1 (fun _ => some (.int q.2))) := by
  refine zc_of (by decide +kernel) rfl (Nat.le_of_ble_eq_true rfl) ?_
  intro p e s m args below meth c C hr hP
  have C : zj_C p s m args meth c G RX7 cX7_isSent 3 := C
  obtain ⟨yd, e9⟩ : ∃ yd : Nat → Nat, yd = yS := ⟨_, rfl⟩
  have e0 : yS 0 = yd 0 := by rw [e9]
  refine zr_eqH (Pr2 := yz_W G (zCh 4 9) yS yd h y) (fun H e => by rw [e, e9]; exact ⟨hP.1, hP.2.1, hP.2.2.1, fun _ _ => rfl⟩) ?_
  rw [e0]
  clear e0 e9 hP
  show zj_X p l e { frames := 3, cells := 3, slots := 39, locals := 69 } s m args below meth c G 3 0 0 (MQ below (zc_Q G (zPo G (zCh 4 9) yS h q.1 (fun _ => some (.int q.2)))) args s 3 39 (xg_B G)) (yz_W G (zCh 4 9) yS yd h y) [some (.ref (yd 0)), some (.int a1), some (.int a2)] 0 []
  unfold mX7_isSent at hR
  refine zr_aload_n C dX7_isSent_0 rfl ?_
  refine zr_getS C fl_RX7_14 rfl dX7_isSent_1 ?_
  refine zr_iload_n C dX7_isSent_4 rfl ?_
  refine zr_aald3 C dX7_isSent_5 hR (fun hR => ?_)
  refine zr_alen2 C dX7_isSent_6 hR (fun hR => ?_)
  refine zr_aload_n C dX7_isSent_7 rfl ?_
  refine zr_getS C fl_RX7_7 rfl dX7_isSent_8 ?_
  refine zr_iload_n C dX7_isSent_11 rfl ?_
  refine zr_iald C dX7_isSent_12 hR (fun hR => ?_)
  refine zr_icmp_lt (tgt := 18) C dX7_isSent_13 (by decide) hR (fun hR => ?_) (fun hR => ?_)
  · refine zr_aload_n C dX7_isSent_18 rfl ?_
    refine zr_getS C fl_RX7_14 rfl dX7_isSent_19 ?_
    refine zr_iload_n C dX7_isSent_22 rfl ?_
    refine zr_aload_n C dX7_isSent_23 rfl ?_
    refine zr_getS C fl_RX7_14 rfl dX7_isSent_24 ?_
    refine zr_iload_n C dX7_isSent_27 rfl ?_
    refine zr_aald3 C dX7_isSent_28 hR (fun hR => ?_)
    refine zr_iload_n C dX7_isSent_29 rfl ?_
    refine zr_withD C (fun j h1 h2 => ⟨by omega, by omega⟩) cs_RX7_67 ⟨Nat.le_of_ble_eq_true rfl, Nat.le_of_ble_eq_true rfl⟩ (Nat.le_of_ble_eq_true rfl) ⟨by show _ ≤ 3; omega, by show _ ≤ 39; omega⟩ dX7_isSent_30 dX7_isSent_33 hR (fun y1 hR yd2 hy3 => ?_)
    rw [← hy3 0 (by omega)]
    refine zr_aload_n C dX7_isSent_34 rfl ?_
    refine zr_iconst (v := 2) C dX7_isSent_35 (by decide) ?_
    refine zr_iload_n C dX7_isSent_36 rfl ?_
    refine zr_callVv C (st := []) [.int (2 : Int32), .int a1] cv_RX7_78 (fun k z => ⟨by have z1 := z.1; omega, by have z2 := z.2; omega⟩) (fun _ zz => zcX7_wake l G zz) rfl ⟨Nat.le_of_ble_eq_true rfl, Nat.le_of_ble_eq_true rfl⟩ (Nat.le_of_ble_eq_true rfl) ⟨by show _ ≤ 3; omega, by show _ ≤ 39; omega⟩ rfl dX7_isSent_37 hR (fun r4 hr4 hR yd5 hy6 => ?_)
    refine zr_iconst (v := 1) C dX7_isSent_40 (by decide) ?_
    exact zq_z C hr (Or.inr rfl) (by omega) (by omega) dX7_isSent_41 hR
  · refine zr_iconst (v := 0) C dX7_isSent_16 (by decide) ?_
    exact zq_z C hr (Or.inl rfl) (by omega) (by omega) dX7_isSent_17 hR
end
section
def mX7_go_b485 (K391 : yz_Y → Int32 → Option (yz_Y × Unit)) (a1 : Int32) (a4 : Int32) (y : yz_Y)  : Option (yz_Y × Unit) := K391 y ((a4 + 1))
def mX7_go_b448 (K391 : yz_Y → Int32 → Option (yz_Y × Unit)) (a1 : Int32) (a4 : Int32) : Nat → yz_Y → Int32 → Option (yz_Y × Unit)
  | 0, _, _ => none
  | n + 1, y, a5 => if (yz_is y 5 2 && xo_ix a5 (y.2 5)) = true then (if (y.1 5 (Int32.toNatClampNeg a5)) = a4 then if (yz_is y 5 2 && decide (y.2 5 ≤ 13) && xo_ix a5 (y.2 5)) = true then (xo_let (yz_rem y 5 a5) fun y3 => (mX7_ready  a4 y3).bind fun r6 => mX7_go_b485 (K391) (a1) (a4) r6.1 ) else none else mX7_go_b448 K391 a1 a4 n y ((a5 + 1))) else none
def mX7_go_b391  (a1 : Int32) : Nat → yz_Y → Int32 → Option (yz_Y × Unit)
  | 0, _, _ => none
  | n + 1, y, a4 => (if (nI (y.2 3)) ≤ a4 then some (y, ()) else if xo_ix a4 (y.2 3) = true then if yz_is y (10 + (Int32.toNatClampNeg a4)) 1 = true then (if (y.1 (10 + (Int32.toNatClampNeg a4)) 4) = (4 : Int32) then if xo_ix a4 (y.2 3) = true then if yz_is y (10 + (Int32.toNatClampNeg a4)) 1 = true then if xo_ix a4 (y.2 3) = true then if yz_is y (10 + (Int32.toNatClampNeg a4)) 1 = true then if (yz_is y (20 + (Int32.toNatClampNeg a4)) 5 && xo_ix (y.1 (10 + (Int32.toNatClampNeg a4)) 2) (y.2 (20 + (Int32.toNatClampNeg a4)))) = true then if (yz_is y (40 + (12 * (Int32.toNatClampNeg a4) + (Int32.toNatClampNeg (y.1 (10 + (Int32.toNatClampNeg a4)) 2)))) 2 && xo_ix (1 : Int32) (y.2 (40 + (12 * (Int32.toNatClampNeg a4) + (Int32.toNatClampNeg (y.1 (10 + (Int32.toNatClampNeg a4)) 2)))))) = true then (if (y.1 (40 + (12 * (Int32.toNatClampNeg a4) + (Int32.toNatClampNeg (y.1 (10 + (Int32.toNatClampNeg a4)) 2)))) (Int32.toNatClampNeg (1 : Int32))) = a1 then mX7_go_b448 (mX7_go_b391  a1 n) (a1) (a4) xo_n y ((0 : Int32)) else mX7_go_b485 (mX7_go_b391  a1 n) (a1) (a4) y ) else none else none else none else none else none else none else mX7_go_b485 (mX7_go_b391  a1 n) (a1) (a4) y ) else none else none)
def mX7_go_b358  (a1 : Int32) (k2 : Nat) (y : yz_Y)  : Option (yz_Y × Unit) := if yz_is y (10 + k2) 1 = true then if yz_is y (10 + k2) 1 = true then if yz_is y (20 + k2) 5 = true then (if (nI (y.2 (20 + k2))) ≤ (y.1 (10 + k2) 2) then if yz_is y (10 + k2) 1 = true then (xo_let (yz_st y (10 + k2) 4 (5 : Int32)) fun y2 => mX7_go_b391  (a1) 9 y2 ((0 : Int32))) else none else if (yz_is y 4 2 && decide (y.2 4 ≤ 12)) = true then (xo_let (yz_app y 4 a1) fun y9 => some (y9, ())) else none) else none else none else none
def mX7_go_b304 (K19 : yz_Y → Int32 → Option (yz_Y × Unit)) (a1 : Int32) (k2 : Nat) (a3 : Int32) (k5 : Nat) (y : yz_Y)  : Option (yz_Y × Unit) := if yz_is y (10 + k2) 1 = true then if yz_is y (10 + k2) 1 = true then (xo_let (yz_st y (10 + k2) 6 ((y.1 (10 + k2) 6) + (1 : Int32))) fun y16 => if (yz_is y16 (40 + k5) 2 && xo_ix (0 : Int32) (y16.2 (40 + k5))) = true then (if (y16.1 (40 + k5) (Int32.toNatClampNeg (0 : Int32))) = (2 : Int32) then if yz_is y16 (10 + k2) 1 = true then (xo_let (yz_st y16 (10 + k2) 4 (3 : Int32)) fun y17 => if (yz_is y17 (40 + k5) 2 && xo_ix (1 : Int32) (y17.2 (40 + k5))) = true then if yz_is y17 (10 + k2) 1 = true then (xo_let (yz_st y17 (10 + k2) 5 ((y17.1 0 0) + (y17.1 (40 + k5) (Int32.toNatClampNeg (1 : Int32))))) fun y18 => some (y18, ())) else none else none) else none else if (yz_is y16 (40 + k5) 2 && xo_ix (0 : Int32) (y16.2 (40 + k5))) = true then (if (y16.1 (40 + k5) (Int32.toNatClampNeg (0 : Int32))) = (3 : Int32) then mX7_go_b358  (a1) (k2) y16  else K19 y16 ((a3 + 1))) else none) else none) else none else none
def mX7_go_b100 (K19 : yz_Y → Int32 → Option (yz_Y × Unit)) (a1 : Int32) (k2 : Nat) (a3 : Int32) (a4 : Int32) (k5 : Nat) (y : yz_Y) (as0 : Int32) (as1 : Int32) : Option (yz_Y × Unit) := (mX7_isSent  as1 as0 y).bind fun r13 => (if r13.2 = 0 then if yz_is r13.1 (10 + k2) 1 = true then (xo_let (yz_st r13.1 (10 + k2) 2 a4) fun y19 => (mX7_waitIn  a1 (1 : Int32) y19).bind fun r20 => some (r20.1, ())) else none else mX7_go_b304 (K19) (a1) (k2) (a3) (k5) r13.1 )
def mX7_go_b67 (K19 : yz_Y → Int32 → Option (yz_Y × Unit)) (a1 : Int32) (k2 : Nat) (a3 : Int32) (a4 : Int32) (k5 : Nat) (y : yz_Y)  : Option (yz_Y × Unit) := if yz_is y (10 + k2) 1 = true then if yz_is y (10 + k2) 1 = true then (xo_let (yz_st y (10 + k2) 2 ((y.1 (10 + k2) 2) + (1 : Int32))) fun y12 => if (yz_is y12 (40 + k5) 2 && xo_ix (1 : Int32) (y12.2 (40 + k5))) = true then if (yz_is y12 (40 + k5) 2 && xo_ix (0 : Int32) (y12.2 (40 + k5))) = true then (if (y12.1 (40 + k5) (Int32.toNatClampNeg (0 : Int32))) = 0 then if (yz_is y12 (40 + k5) 2 && xo_ix (2 : Int32) (y12.2 (40 + k5))) = true then mX7_go_b100 (K19) (a1) (k2) (a3) (a4) (k5) y12 ((y12.1 (40 + k5) (Int32.toNatClampNeg (2 : Int32)))) ((y12.1 (40 + k5) (Int32.toNatClampNeg (1 : Int32)))) else none else if yz_is y12 (10 + k2) 1 = true then mX7_go_b100 (K19) (a1) (k2) (a3) (a4) (k5) y12 ((y12.1 (10 + k2) 3)) ((y12.1 (40 + k5) (Int32.toNatClampNeg (1 : Int32)))) else none) else none else none) else none else none
def mX7_go_b286 (K19 : yz_Y → Int32 → Option (yz_Y × Unit)) (a1 : Int32) (k2 : Nat) (a3 : Int32) (a4 : Int32) (k5 : Nat) (y : yz_Y)  : Option (yz_Y × Unit) := if yz_is y (10 + k2) 1 = true then if (yz_is y (30 + k2) 2 && xo_ix a4 (y.2 (30 + k2))) = true then (xo_let (yz_st y (30 + k2) (Int32.toNatClampNeg a4) (0 : Int32)) fun y23 => if yz_is y23 (10 + k2) 1 = true then if yz_is y23 (10 + k2) 1 = true then (xo_let (yz_st y23 (10 + k2) 2 ((y23.1 (10 + k2) 2) + (1 : Int32))) fun y24 => mX7_go_b304 (K19) (a1) (k2) (a3) (k5) y24 ) else none else none) else none else none
def mX7_go_b242 (K19 : yz_Y → Int32 → Option (yz_Y × Unit)) (a1 : Int32) (k2 : Nat) (a3 : Int32) (a4 : Int32) (k5 : Nat) (y : yz_Y)  : Option (yz_Y × Unit) := if (yz_is y (40 + k5) 2 && xo_ix (0 : Int32) (y.2 (40 + k5))) = true then (if (y.1 (40 + k5) (Int32.toNatClampNeg (0 : Int32))) = (5 : Int32) then if yz_is y (10 + k2) 1 = true then if (yz_is y (30 + k2) 2 && xo_ix a4 (y.2 (30 + k2))) = true then if (yz_is y (40 + k5) 2 && xo_ix (2 : Int32) (y.2 (40 + k5))) = true then (if (y.1 (40 + k5) (Int32.toNatClampNeg (2 : Int32))) ≤ (y.1 (30 + k2) (Int32.toNatClampNeg a4)) then mX7_go_b286 (K19) (a1) (k2) (a3) (a4) (k5) y  else if yz_is y (10 + k2) 1 = true then if (yz_is y (30 + k2) 2 && xo_ix a4 (y.2 (30 + k2))) = true then if (yz_is y (30 + k2) 2 && xo_ix a4 (y.2 (30 + k2))) = true then (xo_let (yz_st y (30 + k2) (Int32.toNatClampNeg a4) ((y.1 (30 + k2) (Int32.toNatClampNeg a4)) + (1 : Int32))) fun y25 => if (yz_is y25 (40 + k5) 2 && xo_ix (1 : Int32) (y25.2 (40 + k5))) = true then if yz_is y25 (10 + k2) 1 = true then (xo_let (yz_st y25 (10 + k2) 2 (y25.1 (40 + k5) (Int32.toNatClampNeg (1 : Int32)))) fun y26 => mX7_go_b304 (K19) (a1) (k2) (a3) (k5) y26 ) else none else none) else none else none else none) else none else none else none else mX7_go_b286 (K19) (a1) (k2) (a3) (a4) (k5) y ) else none
def mX7_go_b19  (a1 : Int32) (k2 : Nat) : Nat → yz_Y → Int32 → Option (yz_Y × Unit)
  | 0, _, _ => none
  | n + 1, y, a3 => (if (4 : Int32) ≤ a3 then mX7_go_b358  (a1) (k2) y  else if yz_is y (10 + k2) 1 = true then if yz_is y (10 + k2) 1 = true then if yz_is y (20 + k2) 5 = true then (if (nI (y.2 (20 + k2))) ≤ (y.1 (10 + k2) 2) then mX7_go_b358  (a1) (k2) y  else if yz_is y (10 + k2) 1 = true then if yz_is y (10 + k2) 1 = true then if (yz_is y (20 + k2) 5 && xo_ix (y.1 (10 + k2) 2) (y.2 (20 + k2))) = true then if (yz_is y (40 + (12 * k2 + (Int32.toNatClampNeg (y.1 (10 + k2) 2)))) 2 && xo_ix (0 : Int32) (y.2 (40 + (12 * k2 + (Int32.toNatClampNeg (y.1 (10 + k2) 2)))))) = true then (if (y.1 (40 + (12 * k2 + (Int32.toNatClampNeg (y.1 (10 + k2) 2)))) (Int32.toNatClampNeg (0 : Int32))) = 0 then mX7_go_b67 (mX7_go_b19  a1 k2 n) (a1) (k2) (a3) ((y.1 (10 + k2) 2)) ((12 * k2 + (Int32.toNatClampNeg (y.1 (10 + k2) 2)))) y  else if (yz_is y (40 + (12 * k2 + (Int32.toNatClampNeg (y.1 (10 + k2) 2)))) 2 && xo_ix (0 : Int32) (y.2 (40 + (12 * k2 + (Int32.toNatClampNeg (y.1 (10 + k2) 2)))))) = true then (if (y.1 (40 + (12 * k2 + (Int32.toNatClampNeg (y.1 (10 + k2) 2)))) (Int32.toNatClampNeg (0 : Int32))) = (6 : Int32) then mX7_go_b67 (mX7_go_b19  a1 k2 n) (a1) (k2) (a3) ((y.1 (10 + k2) 2)) ((12 * k2 + (Int32.toNatClampNeg (y.1 (10 + k2) 2)))) y  else if (yz_is y (40 + (12 * k2 + (Int32.toNatClampNeg (y.1 (10 + k2) 2)))) 2 && xo_ix (0 : Int32) (y.2 (40 + (12 * k2 + (Int32.toNatClampNeg (y.1 (10 + k2) 2)))))) = true then (if (y.1 (40 + (12 * k2 + (Int32.toNatClampNeg (y.1 (10 + k2) 2)))) (Int32.toNatClampNeg (0 : Int32))) = (1 : Int32) then if (yz_is y (40 + (12 * k2 + (Int32.toNatClampNeg (y.1 (10 + k2) 2)))) 2 && xo_ix (1 : Int32) (y.2 (40 + (12 * k2 + (Int32.toNatClampNeg (y.1 (10 + k2) 2)))))) = true then if xo_ix (y.1 (40 + (12 * k2 + (Int32.toNatClampNeg (y.1 (10 + k2) 2)))) (Int32.toNatClampNeg (1 : Int32))) (y.2 2) = true then if yz_is y (6 + (Int32.toNatClampNeg (y.1 (40 + (12 * k2 + (Int32.toNatClampNeg (y.1 (10 + k2) 2)))) (Int32.toNatClampNeg (1 : Int32))))) 2 = true then (if (nI (y.2 (6 + (Int32.toNatClampNeg (y.1 (40 + (12 * k2 + (Int32.toNatClampNeg (y.1 (10 + k2) 2)))) (Int32.toNatClampNeg (1 : Int32))))))) = 0 then (mX7_waitIn  a1 (2 : Int32) y).bind fun r38 => some (r38.1, ()) else if yz_is y (10 + k2) 1 = true then if (yz_is y (40 + (12 * k2 + (Int32.toNatClampNeg (y.1 (10 + k2) 2)))) 2 && xo_ix (1 : Int32) (y.2 (40 + (12 * k2 + (Int32.toNatClampNeg (y.1 (10 + k2) 2)))))) = true then if xo_ix (y.1 (40 + (12 * k2 + (Int32.toNatClampNeg (y.1 (10 + k2) 2)))) (Int32.toNatClampNeg (1 : Int32))) (y.2 2) = true then if (yz_is y (6 + (Int32.toNatClampNeg (y.1 (40 + (12 * k2 + (Int32.toNatClampNeg (y.1 (10 + k2) 2)))) (Int32.toNatClampNeg (1 : Int32))))) 2 && xo_ix (0 : Int32) (y.2 (6 + (Int32.toNatClampNeg (y.1 (40 + (12 * k2 + (Int32.toNatClampNeg (y.1 (10 + k2) 2)))) (Int32.toNatClampNeg (1 : Int32))))))) = true then if yz_is y (10 + k2) 1 = true then (xo_let (yz_st y (10 + k2) 3 ((y.1 (10 + k2) 3) + (y.1 (6 + (Int32.toNatClampNeg (y.1 (40 + (12 * k2 + (Int32.toNatClampNeg (y.1 (10 + k2) 2)))) (Int32.toNatClampNeg (1 : Int32))))) (Int32.toNatClampNeg (0 : Int32))))) fun y30 => if (yz_is y30 (40 + (12 * k2 + (Int32.toNatClampNeg (y.1 (10 + k2) 2)))) 2 && xo_ix (1 : Int32) (y30.2 (40 + (12 * k2 + (Int32.toNatClampNeg (y.1 (10 + k2) 2)))))) = true then if (yz_is y30 (40 + (12 * k2 + (Int32.toNatClampNeg (y.1 (10 + k2) 2)))) 2 && xo_ix (1 : Int32) (y30.2 (40 + (12 * k2 + (Int32.toNatClampNeg (y.1 (10 + k2) 2)))))) = true then if xo_ix (y30.1 (40 + (12 * k2 + (Int32.toNatClampNeg (y.1 (10 + k2) 2)))) (Int32.toNatClampNeg (1 : Int32))) (y30.2 2) = true then if (xo_ix (y30.1 (40 + (12 * k2 + (Int32.toNatClampNeg (y.1 (10 + k2) 2)))) (Int32.toNatClampNeg (1 : Int32))) (y30.2 2) && (yz_is y30 (6 + (Int32.toNatClampNeg (y30.1 (40 + (12 * k2 + (Int32.toNatClampNeg (y.1 (10 + k2) 2)))) (Int32.toNatClampNeg (1 : Int32))))) 2 && decide (y30.2 (6 + (Int32.toNatClampNeg (y30.1 (40 + (12 * k2 + (Int32.toNatClampNeg (y.1 (10 + k2) 2)))) (Int32.toNatClampNeg (1 : Int32))))) ≤ 13) && xo_ix (0 : Int32) (y30.2 (6 + (Int32.toNatClampNeg (y30.1 (40 + (12 * k2 + (Int32.toNatClampNeg (y.1 (10 + k2) 2)))) (Int32.toNatClampNeg (1 : Int32)))))))) = true then (xo_let (yz_rem y30 (6 + (Int32.toNatClampNeg (y30.1 (40 + (12 * k2 + (Int32.toNatClampNeg (y.1 (10 + k2) 2)))) (Int32.toNatClampNeg (1 : Int32))))) (0 : Int32)) fun y31 => if yz_is y31 (10 + k2) 1 = true then if yz_is y31 (10 + k2) 1 = true then (xo_let (yz_st y31 (10 + k2) 2 ((y31.1 (10 + k2) 2) + (1 : Int32))) fun y34 => if (yz_is y34 (40 + (12 * k2 + (Int32.toNatClampNeg (y.1 (10 + k2) 2)))) 2 && xo_ix (1 : Int32) (y34.2 (40 + (12 * k2 + (Int32.toNatClampNeg (y.1 (10 + k2) 2)))))) = true then (mX7_wake  (1 : Int32) (y34.1 (40 + (12 * k2 + (Int32.toNatClampNeg (y.1 (10 + k2) 2)))) (Int32.toNatClampNeg (1 : Int32))) y34).bind fun r35 => mX7_go_b304 (mX7_go_b19  a1 k2 n) (a1) (k2) (a3) ((12 * k2 + (Int32.toNatClampNeg (y.1 (10 + k2) 2)))) r35.1  else none) else none else none) else none else none else none else none) else none else none else none else none else none) else none else none else none else if (yz_is y (40 + (12 * k2 + (Int32.toNatClampNeg (y.1 (10 + k2) 2)))) 2 && xo_ix (0 : Int32) (y.2 (40 + (12 * k2 + (Int32.toNatClampNeg (y.1 (10 + k2) 2)))))) = true then (if (y.1 (40 + (12 * k2 + (Int32.toNatClampNeg (y.1 (10 + k2) 2)))) (Int32.toNatClampNeg (0 : Int32))) = (4 : Int32) then if (yz_is y (40 + (12 * k2 + (Int32.toNatClampNeg (y.1 (10 + k2) 2)))) 2 && xo_ix (1 : Int32) (y.2 (40 + (12 * k2 + (Int32.toNatClampNeg (y.1 (10 + k2) 2)))))) = true then if xo_ix (y.1 (40 + (12 * k2 + (Int32.toNatClampNeg (y.1 (10 + k2) 2)))) (Int32.toNatClampNeg (1 : Int32))) (y.2 3) = true then if yz_is y (10 + (Int32.toNatClampNeg (y.1 (40 + (12 * k2 + (Int32.toNatClampNeg (y.1 (10 + k2) 2)))) (Int32.toNatClampNeg (1 : Int32))))) 1 = true then (if (y.1 (10 + (Int32.toNatClampNeg (y.1 (40 + (12 * k2 + (Int32.toNatClampNeg (y.1 (10 + k2) 2)))) (Int32.toNatClampNeg (1 : Int32))))) 4) = (5 : Int32) then mX7_go_b242 (mX7_go_b19  a1 k2 n) (a1) (k2) (a3) ((y.1 (10 + k2) 2)) ((12 * k2 + (Int32.toNatClampNeg (y.1 (10 + k2) 2)))) y  else (mX7_waitIn  a1 (4 : Int32) y).bind fun r27 => some (r27.1, ())) else none else none else none else mX7_go_b242 (mX7_go_b19  a1 k2 n) (a1) (k2) (a3) ((y.1 (10 + k2) 2)) ((12 * k2 + (Int32.toNatClampNeg (y.1 (10 + k2) 2)))) y ) else none) else none) else none) else none else none else none else none) else none else none else none)
def mX7_go (a1 : Int32) (y : yz_Y) : Option (yz_Y × Unit) := if xo_ix a1 (y.2 3) = true then if yz_is y (10 + (Int32.toNatClampNeg a1)) 1 = true then if yz_is y (10 + (Int32.toNatClampNeg a1)) 1 = true then (xo_let (yz_st y (10 + (Int32.toNatClampNeg a1)) 7 ((y.1 (10 + (Int32.toNatClampNeg a1)) 7) + (1 : Int32))) fun y1 => mX7_go_b19  (a1) ((Int32.toNatClampNeg a1)) 5 y1 ((0 : Int32))) else none else none else none
set_option maxHeartbeats 4000000 in
set_option maxRecDepth 100000 in
theorem mbX7_go_b485 {p : Program} {l : Launch} {e : Env} {s : State} {m : MethodId} {args : Array Value} {below : List Frame} {meth : Method} {c : Code} {G : xw_G} (C : zj_C p s m args meth c G RX7 cX7_go 6) (hr : meth.sig.returnType = none) {yS : Nat → Nat} {h : xw_M} {q : yz_Y × Unit} {NK391 MK391 : Nat} {K391 : yz_Y → Int32 → Option (yz_Y × Unit)} {a1 : Int32} {a4 : Int32} (hK391 : ∀ {cells slots : Nat} (yd : Nat → Nat) (y : yz_Y) (a4 : Int32), cells + NK391 ≤ 36 → slots + MK391 ≤ 468 → K391 y a4 = some q → zj_X p l e { frames := 4, cells := 36, slots := 468, locals := 91 } s m args below meth c G 6 cells slots (MQ below (zc_Q G (zPo G (zCh 4 9) yS h q.1 (fun _ => none))) args s 36 468 (xg_B G)) (yz_W G (zCh 4 9) yS yd h y) [some (.ref (yd 0)), some (.int a1), none, none, some (.int a4), none] 391 []) {cells slots : Nat} (yd : Nat → Nat) (y : yz_Y)  (hc_391 : cells + (0 + NK391) ≤ 36) (hs_391 : slots + (0 + MK391) ≤ 468) (hR : mX7_go_b485 K391 a1 a4 y  = some q) : zj_X p l e { frames := 4, cells := 36, slots := 468, locals := 91 } s m args below meth c G 6 cells slots (MQ below (zc_Q G (zPo G (zCh 4 9) yS h q.1 (fun _ => none))) args s 36 468 (xg_B G)) (yz_W G (zCh 4 9) yS yd h y) [some (.ref (yd 0)), some (.int a1), none, none, some (.int a4), none] 485 [] := by
  unfold mX7_go_b485 at hR
  refine zr_iinc (v := 1) C dX7_go_485 rfl (by decide) rfl (by decide) ?_
  refine zr_goto (tgt := 391) C dX7_go_488 (by decide) ?_
  exact zr_sub (lv9 := [some (.ref (yd 0)), some (.int a1), none, none, some (.int (a4 + 1)), none]) (And.intro rfl (And.intro rfl (And.intro rfl trivial))) (hK391 yd _ _ (by omega) (by omega) hR)
set_option maxHeartbeats 4000000 in
set_option maxRecDepth 100000 in
theorem mbX7_go_b448 {p : Program} {l : Launch} {e : Env} {s : State} {m : MethodId} {args : Array Value} {below : List Frame} {meth : Method} {c : Code} {G : xw_G} (C : zj_C p s m args meth c G RX7 cX7_go 6) (hr : meth.sig.returnType = none) {yS : Nat → Nat} {h : xw_M} {q : yz_Y × Unit} {NK391 MK391 : Nat} {K391 : yz_Y → Int32 → Option (yz_Y × Unit)} {a1 : Int32} {a4 : Int32} (hK391 : ∀ {cells slots : Nat} (yd : Nat → Nat) (y : yz_Y) (a4 : Int32), cells + NK391 ≤ 36 → slots + MK391 ≤ 468 → K391 y a4 = some q → zj_X p l e { frames := 4, cells := 36, slots := 468, locals := 91 } s m args below meth c G 6 cells slots (MQ below (zc_Q G (zPo G (zCh 4 9) yS h q.1 (fun _ => none))) args s 36 468 (xg_B G)) (yz_W G (zCh 4 9) yS yd h y) [some (.ref (yd 0)), some (.int a1), none, none, some (.int a4), none] 391 []) : ∀ (n : Nat) {cells slots : Nat} (yd : Nat → Nat) (y : yz_Y) (a5 : Int32), cells + (2 + NK391) ≤ 36 → slots + (26 + MK391) ≤ 468 → mX7_go_b448 K391 a1 a4 n y a5 = some q → zj_X p l e { frames := 4, cells := 36, slots := 468, locals := 91 } s m args below meth c G 6 cells slots (MQ below (zc_Q G (zPo G (zCh 4 9) yS h q.1 (fun _ => none))) args s 36 468 (xg_B G)) (yz_W G (zCh 4 9) yS yd h y) [some (.ref (yd 0)), some (.int a1), none, none, some (.int a4), some (.int a5)] 448 [] := by
  intro n
  induction n with
  | zero => intro cells slots yd y a5 hc_391 hs_391 hR; exact absurd (show (none : Option (yz_Y × Unit)) = some q from hR) (fun z => by cases z)
  | succ n ih =>
    intro cells slots yd y a5 hc_391 hs_391 hR
    rw [mX7_go_b448.eq_2] at hR
    refine zr_aload_n C dX7_go_448 rfl ?_
    refine zr_getS C fl_RX7_27 rfl dX7_go_449 ?_
    refine zr_iload C dX7_go_452 rfl ?_
    refine zr_iald C dX7_go_454 hR (fun hR => ?_)
    refine zr_iload C dX7_go_455 rfl ?_
    refine zr_icmp_eq (tgt := 466) C dX7_go_457 (by decide) hR (fun hR => ?_) (fun hR => ?_)
    · refine zr_aload_n C dX7_go_466 rfl ?_
      refine zr_aload_n C dX7_go_467 rfl ?_
      refine zr_getS C fl_RX7_27 rfl dX7_go_468 ?_
      refine zr_iload C dX7_go_471 rfl ?_
      refine zr_withoutS C (by decide) ⟨by omega, by omega⟩ cs_RX7_75 fl_RX7_27 zpr_7_6 ⟨Nat.le_of_ble_eq_true rfl, Nat.le_of_ble_eq_true rfl⟩ (Nat.le_of_ble_eq_true rfl) ⟨by show _ ≤ 36; omega, by show _ ≤ 468; omega⟩ dX7_go_473 dX7_go_476 hR (fun y3 hR yd4 hy5 => ?_)
      rw [← hy5 0 (by omega)]
      refine zr_aload_n C dX7_go_479 rfl ?_
      refine zr_iload C dX7_go_480 rfl ?_
      refine zr_callVv C (st := []) [.int a4] cv_RX7_71 (fun k z => ⟨by have z1 := z.1; omega, by have z2 := z.2; omega⟩) (fun _ zz => zcX7_ready l G zz) rfl ⟨Nat.le_of_ble_eq_true rfl, Nat.le_of_ble_eq_true rfl⟩ (Nat.le_of_ble_eq_true rfl) ⟨by show _ ≤ 36; omega, by show _ ≤ 468; omega⟩ rfl dX7_go_482 hR (fun r6 hr6 hR yd7 hy8 => ?_)
      rw [← hy8 0 (fun z => by have z1 := z.1; have z2 := z.2; omega)]
      exact zr_sub (lv9 := [some (.ref (yd7 0)), some (.int a1), none, none, some (.int a4), none]) (And.intro rfl (And.intro rfl (And.intro rfl trivial))) (mbX7_go_b485 C hr (NK391 := NK391) (MK391 := MK391) hK391 yd7 _ (by omega) (by omega) hR)
    · refine zr_iinc (v := 1) C dX7_go_460 rfl (by decide) rfl (by decide) ?_
      refine zr_goto (tgt := 448) C dX7_go_463 (by decide) ?_
      exact zr_sub (lv9 := [some (.ref (yd 0)), some (.int a1), none, none, some (.int a4), some (.int (a5 + 1))]) (And.intro rfl (And.intro rfl (And.intro rfl (And.intro rfl trivial)))) (ih yd _ _ (by omega) (by omega) hR)
set_option maxHeartbeats 4000000 in
set_option maxRecDepth 100000 in
theorem mbX7_go_b391 {p : Program} {l : Launch} {e : Env} {s : State} {m : MethodId} {args : Array Value} {below : List Frame} {meth : Method} {c : Code} {G : xw_G} (C : zj_C p s m args meth c G RX7 cX7_go 6) (hr : meth.sig.returnType = none) {yS : Nat → Nat} {h : xw_M} {q : yz_Y × Unit} {a1 : Int32}  : ∀ (n : Nat) {cells slots : Nat} (yd : Nat → Nat) (y : yz_Y) (a4 : Int32), cells + (2 * n + 0) ≤ 36 → slots + (26 * n + 0) ≤ 468 → mX7_go_b391  a1 n y a4 = some q → zj_X p l e { frames := 4, cells := 36, slots := 468, locals := 91 } s m args below meth c G 6 cells slots (MQ below (zc_Q G (zPo G (zCh 4 9) yS h q.1 (fun _ => none))) args s 36 468 (xg_B G)) (yz_W G (zCh 4 9) yS yd h y) [some (.ref (yd 0)), some (.int a1), none, none, some (.int a4), none] 391 [] := by
  intro n
  induction n with
  | zero => intro cells slots yd y a4 hc_x hs_x hR; exact absurd (show (none : Option (yz_Y × Unit)) = some q from hR) (fun z => by cases z)
  | succ n ih =>
    intro cells slots yd y a4 hc_x hs_x hR
    rw [mX7_go_b391.eq_2] at hR
    refine zr_iload C dX7_go_391 rfl ?_
    refine zr_aload_n C dX7_go_393 rfl ?_
    refine zr_getS C fl_RX7_20 rfl dX7_go_394 ?_
    refine zr_alen4 C dX7_go_397 ?_
    refine zr_icmp_ge (tgt := 491) C dX7_go_398 (by decide) hR (fun hR => ?_) (fun hR => ?_)
    · exact zq_v C hr (by omega) (by omega) dX7_go_491 hR
    · refine zr_aload_n C dX7_go_401 rfl ?_
      refine zr_getS C fl_RX7_20 rfl dX7_go_402 ?_
      refine zr_iload C dX7_go_405 rfl ?_
      refine zr_aald4 C dX7_go_407 hR (fun hR => ?_)
      refine zr_getF C fl_RX7_55 rfl dX7_go_408 hR (fun hR => ?_)
      refine zr_iconst (v := 4) C dX7_go_411 (by decide) ?_
      refine zr_icmp_ne (tgt := 485) C dX7_go_412 (by decide) hR (fun hR => ?_) (fun hR => ?_)
      · exact zr_sub (lv9 := [some (.ref (yd 0)), some (.int a1), none, none, some (.int a4), none]) (And.intro rfl (And.intro rfl (And.intro rfl trivial))) (mbX7_go_b485 C hr (NK391 := (2 * n + 0)) (MK391 := (26 * n + 0)) (fun yd y z4 h1 h2 h3 => ih yd y z4 (by omega) (by omega) h3) yd _ (by omega) (by omega) hR)
      · refine zr_aload_n C dX7_go_415 rfl ?_
        refine zr_getS C fl_RX7_20 rfl dX7_go_416 ?_
        refine zr_iload C dX7_go_419 rfl ?_
        refine zr_aald4 C dX7_go_421 hR (fun hR => ?_)
        refine zr_getF C fl_RX7_43 rfl dX7_go_422 hR (fun hR => ?_)
        refine zr_aload_n C dX7_go_425 rfl ?_
        refine zr_getS C fl_RX7_20 rfl dX7_go_426 ?_
        refine zr_iload C dX7_go_429 rfl ?_
        refine zr_aald4 C dX7_go_431 hR (fun hR => ?_)
        refine zr_getF C fl_RX7_49 rfl dX7_go_432 hR (fun hR => ?_)
        refine zr_aald5 C dX7_go_435 hR (fun hR => ?_)
        refine zr_iconst (v := 1) C dX7_go_436 (by decide) ?_
        refine zr_iald C dX7_go_437 hR (fun hR => ?_)
        refine zr_iload_n C dX7_go_438 rfl ?_
        refine zr_icmp_eq (tgt := 445) C dX7_go_439 (by decide) hR (fun hR => ?_) (fun hR => ?_)
        · refine zr_iconst (v := 0) C dX7_go_445 (by decide) ?_
          refine zr_istore C dX7_go_446 rfl (by decide) ?_
          exact zr_sub (lv9 := [some (.ref (yd 0)), some (.int a1), none, none, some (.int a4), some (.int (0 : Int32))]) (And.intro rfl (And.intro rfl (And.intro rfl (And.intro rfl trivial)))) (mbX7_go_b448 C hr (NK391 := (2 * n + 0)) (MK391 := (26 * n + 0)) (fun yd y z4 h1 h2 h3 => ih yd y z4 (by omega) (by omega) h3) _ yd _ _ (by omega) (by omega) hR)
        · refine zr_goto (tgt := 485) C dX7_go_442 (by decide) ?_
          exact zr_sub (lv9 := [some (.ref (yd 0)), some (.int a1), none, none, some (.int a4), none]) (And.intro rfl (And.intro rfl (And.intro rfl trivial))) (mbX7_go_b485 C hr (NK391 := (2 * n + 0)) (MK391 := (26 * n + 0)) (fun yd y z4 h1 h2 h3 => ih yd y z4 (by omega) (by omega) h3) yd _ (by omega) (by omega) hR)
set_option maxHeartbeats 4000000 in
set_option maxRecDepth 100000 in
theorem mbX7_go_b358 {p : Program} {l : Launch} {e : Env} {s : State} {m : MethodId} {args : Array Value} {below : List Frame} {meth : Method} {c : Code} {G : xw_G} (C : zj_C p s m args meth c G RX7 cX7_go 6) (hr : meth.sig.returnType = none) {yS : Nat → Nat} {h : xw_M} {q : yz_Y × Unit} {a1 : Int32} {k2 : Nat}  {cells slots : Nat} (yd : Nat → Nat) (y : yz_Y)  (hc_x : cells + (18) ≤ 36) (hs_x : slots + (234) ≤ 468) (hR : mX7_go_b358  a1 k2 y  = some q) : zj_X p l e { frames := 4, cells := 36, slots := 468, locals := 91 } s m args below meth c G 6 cells slots (MQ below (zc_Q G (zPo G (zCh 4 9) yS h q.1 (fun _ => none))) args s 36 468 (xg_B G)) (yz_W G (zCh 4 9) yS yd h y) [some (.ref (yd 0)), some (.int a1), some (.ref (yd (10 + k2))), none, none, none] 358 [] := by
  unfold mX7_go_b358 at hR
  refine zr_aload_n C dX7_go_358 rfl ?_
  refine zr_getF C fl_RX7_49 rfl dX7_go_359 hR (fun hR => ?_)
  refine zr_aload_n C dX7_go_362 rfl ?_
  refine zr_getF C fl_RX7_43 rfl dX7_go_363 hR (fun hR => ?_)
  refine zr_alen5 C dX7_go_366 hR (fun hR => ?_)
  refine zr_icmp_ge (tgt := 383) C dX7_go_367 (by decide) hR (fun hR => ?_) (fun hR => ?_)
  · refine zr_aload_n C dX7_go_383 rfl ?_
    refine zr_iconst (v := 5) C dX7_go_384 (by decide) ?_
    refine zr_putF C (by decide) fl_RX7_55 zpf_6_4 dX7_go_385 hR (fun y2 hR => ?_)
    refine zr_iconst (v := 0) C dX7_go_388 (by decide) ?_
    refine zr_istore C dX7_go_389 rfl (by decide) ?_
    exact zr_sub (lv9 := [some (.ref (yd 0)), some (.int a1), none, none, some (.int (0 : Int32)), none]) (And.intro rfl (And.intro rfl (And.intro rfl trivial))) (mbX7_go_b391 C hr  _ yd _ _ (by omega) (by omega) hR)
  · refine zr_aload_n C dX7_go_370 rfl ?_
    refine zr_aload_n C dX7_go_371 rfl ?_
    refine zr_getS C fl_RX7_24 rfl dX7_go_372 ?_
    refine zr_iload_n C dX7_go_375 rfl ?_
    refine zr_withS C (by decide) ⟨by omega, by omega⟩ cs_RX7_67 fl_RX7_24 zpr_7_5 ⟨Nat.le_of_ble_eq_true rfl, Nat.le_of_ble_eq_true rfl⟩ (Nat.le_of_ble_eq_true rfl) ⟨by show _ ≤ 36; omega, by show _ ≤ 468; omega⟩ dX7_go_376 dX7_go_379 hR (fun y9 hR yd10 hy11 => ?_)
    exact zq_v C hr (by omega) (by omega) dX7_go_382 hR
set_option maxHeartbeats 4000000 in
set_option maxRecDepth 100000 in
theorem mbX7_go_b304 {p : Program} {l : Launch} {e : Env} {s : State} {m : MethodId} {args : Array Value} {below : List Frame} {meth : Method} {c : Code} {G : xw_G} (C : zj_C p s m args meth c G RX7 cX7_go 6) (hr : meth.sig.returnType = none) {yS : Nat → Nat} {h : xw_M} {q : yz_Y × Unit} {NK19 MK19 : Nat} {K19 : yz_Y → Int32 → Option (yz_Y × Unit)} {a1 : Int32} {k2 : Nat} {a3 : Int32} {k5 : Nat} (hK19 : ∀ {cells slots : Nat} (yd : Nat → Nat) (y : yz_Y) (a3 : Int32), cells + NK19 ≤ 36 → slots + MK19 ≤ 468 → K19 y a3 = some q → zj_X p l e { frames := 4, cells := 36, slots := 468, locals := 91 } s m args below meth c G 6 cells slots (MQ below (zc_Q G (zPo G (zCh 4 9) yS h q.1 (fun _ => none))) args s 36 468 (xg_B G)) (yz_W G (zCh 4 9) yS yd h y) [some (.ref (yd 0)), some (.int a1), some (.ref (yd (10 + k2))), some (.int a3), none, none] 19 []) {cells slots : Nat} (yd : Nat → Nat) (y : yz_Y)  (hc_19 : cells + (0 + NK19) ≤ 36) (hs_19 : slots + (0 + MK19) ≤ 468) (hc_x : cells + (18) ≤ 36) (hs_x : slots + (234) ≤ 468) (hR : mX7_go_b304 K19 a1 k2 a3 k5 y  = some q) : zj_X p l e { frames := 4, cells := 36, slots := 468, locals := 91 } s m args below meth c G 6 cells slots (MQ below (zc_Q G (zPo G (zCh 4 9) yS h q.1 (fun _ => none))) args s 36 468 (xg_B G)) (yz_W G (zCh 4 9) yS yd h y) [some (.ref (yd 0)), some (.int a1), some (.ref (yd (10 + k2))), some (.int a3), none, some (.ref (yd (40 + k5)))] 304 [] := by
  unfold mX7_go_b304 at hR
  refine zr_iinc (v := 1) C dX7_go_304 rfl (by decide) rfl (by decide) ?_
  refine zr_aload_n C dX7_go_307 rfl ?_
  refine zr_dup C dX7_go_308 rfl ?_
  refine zr_getF C fl_RX7_61 rfl dX7_go_309 hR (fun hR => ?_)
  refine zr_iconst (v := 1) C dX7_go_312 (by decide) ?_
  refine zr_iadd C dX7_go_313 ?_
  refine zr_putF C (by decide) fl_RX7_61 zpf_6_6 dX7_go_314 hR (fun y16 hR => ?_)
  refine zr_aload C dX7_go_317 rfl ?_
  refine zr_iconst (v := 0) C dX7_go_319 (by decide) ?_
  refine zr_iald C dX7_go_320 hR (fun hR => ?_)
  refine zr_iconst (v := 2) C dX7_go_321 (by decide) ?_
  refine zr_icmp_ne (tgt := 344) C dX7_go_322 (by decide) hR (fun hR => ?_) (fun hR => ?_)
  · refine zr_aload C dX7_go_344 rfl ?_
    refine zr_iconst (v := 0) C dX7_go_346 (by decide) ?_
    refine zr_iald C dX7_go_347 hR (fun hR => ?_)
    refine zr_iconst (v := 3) C dX7_go_348 (by decide) ?_
    refine zr_icmp_ne (tgt := 355) C dX7_go_349 (by decide) hR (fun hR => ?_) (fun hR => ?_)
    · refine zr_goto (tgt := 19) C dX7_go_355 (by decide) ?_
      exact zr_sub (lv9 := [some (.ref (yd 0)), some (.int a1), some (.ref (yd (10 + k2))), some (.int (a3 + 1)), none, none]) (And.intro rfl (And.intro rfl (And.intro rfl (And.intro rfl trivial)))) (hK19 yd _ _ (by omega) (by omega) hR)
    · refine zr_goto (tgt := 358) C dX7_go_352 (by decide) ?_
      exact zr_sub (lv9 := [some (.ref (yd 0)), some (.int a1), some (.ref (yd (10 + k2))), none, none, none]) (And.intro rfl (And.intro rfl (And.intro rfl trivial))) (mbX7_go_b358 C hr  yd _ (by omega) (by omega) hR)
  · refine zr_aload_n C dX7_go_325 rfl ?_
    refine zr_iconst (v := 3) C dX7_go_326 (by decide) ?_
    refine zr_putF C (by decide) fl_RX7_55 zpf_6_4 dX7_go_327 hR (fun y17 hR => ?_)
    refine zr_aload_n C dX7_go_330 rfl ?_
    refine zr_aload_n C dX7_go_331 rfl ?_
    refine zr_getS C fl_RX7_31 rfl dX7_go_332 ?_
    refine zr_aload C dX7_go_335 rfl ?_
    refine zr_iconst (v := 1) C dX7_go_337 (by decide) ?_
    refine zr_iald C dX7_go_338 hR (fun hR => ?_)
    refine zr_iadd C dX7_go_339 ?_
    refine zr_putF C (by decide) fl_RX7_58 zpf_6_5 dX7_go_340 hR (fun y18 hR => ?_)
    exact zq_v C hr (by omega) (by omega) dX7_go_343 hR
set_option maxHeartbeats 4000000 in
set_option maxRecDepth 100000 in
theorem mbX7_go_b100 {p : Program} {l : Launch} {e : Env} {s : State} {m : MethodId} {args : Array Value} {below : List Frame} {meth : Method} {c : Code} {G : xw_G} (C : zj_C p s m args meth c G RX7 cX7_go 6) (hr : meth.sig.returnType = none) {yS : Nat → Nat} {h : xw_M} {q : yz_Y × Unit} {NK19 MK19 : Nat} {K19 : yz_Y → Int32 → Option (yz_Y × Unit)} {a1 : Int32} {k2 : Nat} {a3 : Int32} {a4 : Int32} {k5 : Nat} (hK19 : ∀ {cells slots : Nat} (yd : Nat → Nat) (y : yz_Y) (a3 : Int32), cells + NK19 ≤ 36 → slots + MK19 ≤ 468 → K19 y a3 = some q → zj_X p l e { frames := 4, cells := 36, slots := 468, locals := 91 } s m args below meth c G 6 cells slots (MQ below (zc_Q G (zPo G (zCh 4 9) yS h q.1 (fun _ => none))) args s 36 468 (xg_B G)) (yz_W G (zCh 4 9) yS yd h y) [some (.ref (yd 0)), some (.int a1), some (.ref (yd (10 + k2))), some (.int a3), none, none] 19 []) {cells slots : Nat} (yd : Nat → Nat) (y : yz_Y) (as0 : Int32) (as1 : Int32) (hc_19 : cells + (3 + NK19) ≤ 36) (hs_19 : slots + (39 + MK19) ≤ 468) (hc_x : cells + (21) ≤ 36) (hs_x : slots + (273) ≤ 468) (hR : mX7_go_b100 K19 a1 k2 a3 a4 k5 y as0 as1 = some q) : zj_X p l e { frames := 4, cells := 36, slots := 468, locals := 91 } s m args below meth c G 6 cells slots (MQ below (zc_Q G (zPo G (zCh 4 9) yS h q.1 (fun _ => none))) args s 36 468 (xg_B G)) (yz_W G (zCh 4 9) yS yd h y) [some (.ref (yd 0)), some (.int a1), some (.ref (yd (10 + k2))), some (.int a3), some (.int a4), some (.ref (yd (40 + k5)))] 100 [.int as0, .int as1, .ref (yd 0)] := by
  unfold mX7_go_b100 at hR
  refine zr_callVi C (st := []) [.int as1, .int as0] cv_RX7_82 (fun k z => ⟨by have z1 := z.1; omega, by have z2 := z.2; omega⟩) (fun _ zz => zcX7_isSent l G zz) rfl ⟨Nat.le_of_ble_eq_true rfl, Nat.le_of_ble_eq_true rfl⟩ (Nat.le_of_ble_eq_true rfl) ⟨by show _ ≤ 36; omega, by show _ ≤ 468; omega⟩ rfl dX7_go_100 hR (fun r13 hr13 hR yd14 hy15 => ?_)
  rw [← hy15 0 (fun z => by have z1 := z.1; have z2 := z.2; omega)]
  rw [← hy15 (10 + k2) (fun z => by have z1 := z.1; have z2 := z.2; omega)]
  rw [← hy15 (40 + k5) (fun z => by have z1 := z.1; have z2 := z.2; omega)]
  refine zr_if_ne (tgt := 304) C dX7_go_103 (by decide) hR (fun hR => ?_) (fun hR => ?_)
  · exact zr_sub (lv9 := [some (.ref (yd14 0)), some (.int a1), some (.ref (yd14 (10 + k2))), some (.int a3), none, some (.ref (yd14 (40 + k5)))]) (And.intro rfl (And.intro rfl (And.intro rfl (And.intro rfl (And.intro rfl trivial))))) (mbX7_go_b304 C hr (NK19 := NK19) (MK19 := MK19) hK19 yd14 _ (by omega) (by omega) (by omega) (by omega) hR)
  · refine zr_aload_n C dX7_go_106 rfl ?_
    refine zr_iload C dX7_go_107 rfl ?_
    refine zr_putF C (by decide) fl_RX7_49 zpf_6_2 dX7_go_109 hR (fun y19 hR => ?_)
    refine zr_aload_n C dX7_go_112 rfl ?_
    refine zr_iload_n C dX7_go_113 rfl ?_
    refine zr_iconst (v := 1) C dX7_go_114 (by decide) ?_
    refine zr_callVv C (st := []) [.int a1, .int (1 : Int32)] cv_RX7_86 (fun k z => ⟨by have z1 := z.1; omega, by have z2 := z.2; omega⟩) (fun _ zz => zcX7_waitIn l G zz) rfl ⟨Nat.le_of_ble_eq_true rfl, Nat.le_of_ble_eq_true rfl⟩ (Nat.le_of_ble_eq_true rfl) ⟨by show _ ≤ 36; omega, by show _ ≤ 468; omega⟩ rfl dX7_go_115 hR (fun r20 hr20 hR yd21 hy22 => ?_)
    exact zq_v C hr (by omega) (by omega) dX7_go_118 hR
set_option maxHeartbeats 4000000 in
set_option maxRecDepth 100000 in
theorem mbX7_go_b67 {p : Program} {l : Launch} {e : Env} {s : State} {m : MethodId} {args : Array Value} {below : List Frame} {meth : Method} {c : Code} {G : xw_G} (C : zj_C p s m args meth c G RX7 cX7_go 6) (hr : meth.sig.returnType = none) {yS : Nat → Nat} {h : xw_M} {q : yz_Y × Unit} {NK19 MK19 : Nat} {K19 : yz_Y → Int32 → Option (yz_Y × Unit)} {a1 : Int32} {k2 : Nat} {a3 : Int32} {a4 : Int32} {k5 : Nat} (hK19 : ∀ {cells slots : Nat} (yd : Nat → Nat) (y : yz_Y) (a3 : Int32), cells + NK19 ≤ 36 → slots + MK19 ≤ 468 → K19 y a3 = some q → zj_X p l e { frames := 4, cells := 36, slots := 468, locals := 91 } s m args below meth c G 6 cells slots (MQ below (zc_Q G (zPo G (zCh 4 9) yS h q.1 (fun _ => none))) args s 36 468 (xg_B G)) (yz_W G (zCh 4 9) yS yd h y) [some (.ref (yd 0)), some (.int a1), some (.ref (yd (10 + k2))), some (.int a3), none, none] 19 []) {cells slots : Nat} (yd : Nat → Nat) (y : yz_Y)  (hc_19 : cells + (3 + NK19) ≤ 36) (hs_19 : slots + (39 + MK19) ≤ 468) (hc_x : cells + (21) ≤ 36) (hs_x : slots + (273) ≤ 468) (hR : mX7_go_b67 K19 a1 k2 a3 a4 k5 y  = some q) : zj_X p l e { frames := 4, cells := 36, slots := 468, locals := 91 } s m args below meth c G 6 cells slots (MQ below (zc_Q G (zPo G (zCh 4 9) yS h q.1 (fun _ => none))) args s 36 468 (xg_B G)) (yz_W G (zCh 4 9) yS yd h y) [some (.ref (yd 0)), some (.int a1), some (.ref (yd (10 + k2))), some (.int a3), some (.int a4), some (.ref (yd (40 + k5)))] 67 [] := by
  unfold mX7_go_b67 at hR
  refine zr_aload_n C dX7_go_67 rfl ?_
  refine zr_dup C dX7_go_68 rfl ?_
  refine zr_getF C fl_RX7_49 rfl dX7_go_69 hR (fun hR => ?_)
  refine zr_iconst (v := 1) C dX7_go_72 (by decide) ?_
  refine zr_iadd C dX7_go_73 ?_
  refine zr_putF C (by decide) fl_RX7_49 zpf_6_2 dX7_go_74 hR (fun y12 hR => ?_)
  refine zr_aload_n C dX7_go_77 rfl ?_
  refine zr_aload C dX7_go_78 rfl ?_
  refine zr_iconst (v := 1) C dX7_go_80 (by decide) ?_
  refine zr_iald C dX7_go_81 hR (fun hR => ?_)
  refine zr_aload C dX7_go_82 rfl ?_
  refine zr_iconst (v := 0) C dX7_go_84 (by decide) ?_
  refine zr_iald C dX7_go_85 hR (fun hR => ?_)
  refine zr_if_ne (tgt := 96) C dX7_go_86 (by decide) hR (fun hR => ?_) (fun hR => ?_)
  · refine zr_aload_n C dX7_go_96 rfl ?_
    refine zr_getF C fl_RX7_52 rfl dX7_go_97 hR (fun hR => ?_)
    exact zr_sub (lv9 := [some (.ref (yd 0)), some (.int a1), some (.ref (yd (10 + k2))), some (.int a3), some (.int a4), some (.ref (yd (40 + k5)))]) (And.intro rfl (And.intro rfl (And.intro rfl (And.intro rfl (And.intro rfl (And.intro rfl trivial)))))) (mbX7_go_b100 C hr (NK19 := NK19) (MK19 := MK19) hK19 yd _ _ _ (by omega) (by omega) (by omega) (by omega) hR)
  · refine zr_aload C dX7_go_89 rfl ?_
    refine zr_iconst (v := 2) C dX7_go_91 (by decide) ?_
    refine zr_iald C dX7_go_92 hR (fun hR => ?_)
    refine zr_goto (tgt := 100) C dX7_go_93 (by decide) ?_
    exact zr_sub (lv9 := [some (.ref (yd 0)), some (.int a1), some (.ref (yd (10 + k2))), some (.int a3), some (.int a4), some (.ref (yd (40 + k5)))]) (And.intro rfl (And.intro rfl (And.intro rfl (And.intro rfl (And.intro rfl (And.intro rfl trivial)))))) (mbX7_go_b100 C hr (NK19 := NK19) (MK19 := MK19) hK19 yd _ _ _ (by omega) (by omega) (by omega) (by omega) hR)
set_option maxHeartbeats 4000000 in
set_option maxRecDepth 100000 in
theorem mbX7_go_b286 {p : Program} {l : Launch} {e : Env} {s : State} {m : MethodId} {args : Array Value} {below : List Frame} {meth : Method} {c : Code} {G : xw_G} (C : zj_C p s m args meth c G RX7 cX7_go 6) (hr : meth.sig.returnType = none) {yS : Nat → Nat} {h : xw_M} {q : yz_Y × Unit} {NK19 MK19 : Nat} {K19 : yz_Y → Int32 → Option (yz_Y × Unit)} {a1 : Int32} {k2 : Nat} {a3 : Int32} {a4 : Int32} {k5 : Nat} (hK19 : ∀ {cells slots : Nat} (yd : Nat → Nat) (y : yz_Y) (a3 : Int32), cells + NK19 ≤ 36 → slots + MK19 ≤ 468 → K19 y a3 = some q → zj_X p l e { frames := 4, cells := 36, slots := 468, locals := 91 } s m args below meth c G 6 cells slots (MQ below (zc_Q G (zPo G (zCh 4 9) yS h q.1 (fun _ => none))) args s 36 468 (xg_B G)) (yz_W G (zCh 4 9) yS yd h y) [some (.ref (yd 0)), some (.int a1), some (.ref (yd (10 + k2))), some (.int a3), none, none] 19 []) {cells slots : Nat} (yd : Nat → Nat) (y : yz_Y)  (hc_19 : cells + (0 + NK19) ≤ 36) (hs_19 : slots + (0 + MK19) ≤ 468) (hc_x : cells + (18) ≤ 36) (hs_x : slots + (234) ≤ 468) (hR : mX7_go_b286 K19 a1 k2 a3 a4 k5 y  = some q) : zj_X p l e { frames := 4, cells := 36, slots := 468, locals := 91 } s m args below meth c G 6 cells slots (MQ below (zc_Q G (zPo G (zCh 4 9) yS h q.1 (fun _ => none))) args s 36 468 (xg_B G)) (yz_W G (zCh 4 9) yS yd h y) [some (.ref (yd 0)), some (.int a1), some (.ref (yd (10 + k2))), some (.int a3), some (.int a4), some (.ref (yd (40 + k5)))] 286 [] := by
  unfold mX7_go_b286 at hR
  refine zr_aload_n C dX7_go_286 rfl ?_
  refine zr_getF C fl_RX7_46 rfl dX7_go_287 hR (fun hR => ?_)
  refine zr_iload C dX7_go_290 rfl ?_
  refine zr_iconst (v := 0) C dX7_go_292 (by decide) ?_
  refine zr_iast C dX7_go_293 hR (fun y23 hR => ?_)
  refine zr_aload_n C dX7_go_294 rfl ?_
  refine zr_dup C dX7_go_295 rfl ?_
  refine zr_getF C fl_RX7_49 rfl dX7_go_296 hR (fun hR => ?_)
  refine zr_iconst (v := 1) C dX7_go_299 (by decide) ?_
  refine zr_iadd C dX7_go_300 ?_
  refine zr_putF C (by decide) fl_RX7_49 zpf_6_2 dX7_go_301 hR (fun y24 hR => ?_)
  exact zr_sub (lv9 := [some (.ref (yd 0)), some (.int a1), some (.ref (yd (10 + k2))), some (.int a3), none, some (.ref (yd (40 + k5)))]) (And.intro rfl (And.intro rfl (And.intro rfl (And.intro rfl (And.intro rfl trivial))))) (mbX7_go_b304 C hr (NK19 := NK19) (MK19 := MK19) hK19 yd _ (by omega) (by omega) (by omega) (by omega) hR)
set_option maxHeartbeats 4000000 in
set_option maxRecDepth 100000 in
theorem mbX7_go_b242 {p : Program} {l : Launch} {e : Env} {s : State} {m : MethodId} {args : Array Value} {below : List Frame} {meth : Method} {c : Code} {G : xw_G} (C : zj_C p s m args meth c G RX7 cX7_go 6) (hr : meth.sig.returnType = none) {yS : Nat → Nat} {h : xw_M} {q : yz_Y × Unit} {NK19 MK19 : Nat} {K19 : yz_Y → Int32 → Option (yz_Y × Unit)} {a1 : Int32} {k2 : Nat} {a3 : Int32} {a4 : Int32} {k5 : Nat} (hK19 : ∀ {cells slots : Nat} (yd : Nat → Nat) (y : yz_Y) (a3 : Int32), cells + NK19 ≤ 36 → slots + MK19 ≤ 468 → K19 y a3 = some q → zj_X p l e { frames := 4, cells := 36, slots := 468, locals := 91 } s m args below meth c G 6 cells slots (MQ below (zc_Q G (zPo G (zCh 4 9) yS h q.1 (fun _ => none))) args s 36 468 (xg_B G)) (yz_W G (zCh 4 9) yS yd h y) [some (.ref (yd 0)), some (.int a1), some (.ref (yd (10 + k2))), some (.int a3), none, none] 19 []) {cells slots : Nat} (yd : Nat → Nat) (y : yz_Y)  (hc_19 : cells + (0 + NK19) ≤ 36) (hs_19 : slots + (0 + MK19) ≤ 468) (hc_x : cells + (18) ≤ 36) (hs_x : slots + (234) ≤ 468) (hR : mX7_go_b242 K19 a1 k2 a3 a4 k5 y  = some q) : zj_X p l e { frames := 4, cells := 36, slots := 468, locals := 91 } s m args below meth c G 6 cells slots (MQ below (zc_Q G (zPo G (zCh 4 9) yS h q.1 (fun _ => none))) args s 36 468 (xg_B G)) (yz_W G (zCh 4 9) yS yd h y) [some (.ref (yd 0)), some (.int a1), some (.ref (yd (10 + k2))), some (.int a3), some (.int a4), some (.ref (yd (40 + k5)))] 242 [] := by
  unfold mX7_go_b242 at hR
  refine zr_aload C dX7_go_242 rfl ?_
  refine zr_iconst (v := 0) C dX7_go_244 (by decide) ?_
  refine zr_iald C dX7_go_245 hR (fun hR => ?_)
  refine zr_iconst (v := 5) C dX7_go_246 (by decide) ?_
  refine zr_icmp_ne (tgt := 286) C dX7_go_247 (by decide) hR (fun hR => ?_) (fun hR => ?_)
  · exact zr_sub (lv9 := [some (.ref (yd 0)), some (.int a1), some (.ref (yd (10 + k2))), some (.int a3), some (.int a4), some (.ref (yd (40 + k5)))]) (And.intro rfl (And.intro rfl (And.intro rfl (And.intro rfl (And.intro rfl (And.intro rfl trivial)))))) (mbX7_go_b286 C hr (NK19 := NK19) (MK19 := MK19) hK19 yd _ (by omega) (by omega) (by omega) (by omega) hR)
  · refine zr_aload_n C dX7_go_250 rfl ?_
    refine zr_getF C fl_RX7_46 rfl dX7_go_251 hR (fun hR => ?_)
    refine zr_iload C dX7_go_254 rfl ?_
    refine zr_iald C dX7_go_256 hR (fun hR => ?_)
    refine zr_aload C dX7_go_257 rfl ?_
    refine zr_iconst (v := 2) C dX7_go_259 (by decide) ?_
    refine zr_iald C dX7_go_260 hR (fun hR => ?_)
    refine zr_icmp_ge (tgt := 286) C dX7_go_261 (by decide) hR (fun hR => ?_) (fun hR => ?_)
    · exact zr_sub (lv9 := [some (.ref (yd 0)), some (.int a1), some (.ref (yd (10 + k2))), some (.int a3), some (.int a4), some (.ref (yd (40 + k5)))]) (And.intro rfl (And.intro rfl (And.intro rfl (And.intro rfl (And.intro rfl (And.intro rfl trivial)))))) (mbX7_go_b286 C hr (NK19 := NK19) (MK19 := MK19) hK19 yd _ (by omega) (by omega) (by omega) (by omega) hR)
    · refine zr_aload_n C dX7_go_264 rfl ?_
      refine zr_getF C fl_RX7_46 rfl dX7_go_265 hR (fun hR => ?_)
      refine zr_iload C dX7_go_268 rfl ?_
      refine zr_dup2 C dX7_go_270 rfl rfl ?_
      refine zr_iald C dX7_go_271 hR (fun hR => ?_)
      refine zr_iconst (v := 1) C dX7_go_272 (by decide) ?_
      refine zr_iadd C dX7_go_273 ?_
      refine zr_iast C dX7_go_274 hR (fun y25 hR => ?_)
      refine zr_aload_n C dX7_go_275 rfl ?_
      refine zr_aload C dX7_go_276 rfl ?_
      refine zr_iconst (v := 1) C dX7_go_278 (by decide) ?_
      refine zr_iald C dX7_go_279 hR (fun hR => ?_)
      refine zr_putF C (by decide) fl_RX7_49 zpf_6_2 dX7_go_280 hR (fun y26 hR => ?_)
      refine zr_goto (tgt := 304) C dX7_go_283 (by decide) ?_
      exact zr_sub (lv9 := [some (.ref (yd 0)), some (.int a1), some (.ref (yd (10 + k2))), some (.int a3), none, some (.ref (yd (40 + k5)))]) (And.intro rfl (And.intro rfl (And.intro rfl (And.intro rfl (And.intro rfl trivial))))) (mbX7_go_b304 C hr (NK19 := NK19) (MK19 := MK19) hK19 yd _ (by omega) (by omega) (by omega) (by omega) hR)
set_option maxHeartbeats 4000000 in
set_option maxRecDepth 100000 in
theorem mbX7_go_b19 {p : Program} {l : Launch} {e : Env} {s : State} {m : MethodId} {args : Array Value} {below : List Frame} {meth : Method} {c : Code} {G : xw_G} (C : zj_C p s m args meth c G RX7 cX7_go 6) (hr : meth.sig.returnType = none) {yS : Nat → Nat} {h : xw_M} {q : yz_Y × Unit} {a1 : Int32} {k2 : Nat}  : ∀ (n : Nat) {cells slots : Nat} (yd : Nat → Nat) (y : yz_Y) (a3 : Int32), cells + (3 * n + 21) ≤ 36 → slots + (39 * n + 273) ≤ 468 → mX7_go_b19  a1 k2 n y a3 = some q → zj_X p l e { frames := 4, cells := 36, slots := 468, locals := 91 } s m args below meth c G 6 cells slots (MQ below (zc_Q G (zPo G (zCh 4 9) yS h q.1 (fun _ => none))) args s 36 468 (xg_B G)) (yz_W G (zCh 4 9) yS yd h y) [some (.ref (yd 0)), some (.int a1), some (.ref (yd (10 + k2))), some (.int a3), none, none] 19 [] := by
  intro n
  induction n with
  | zero => intro cells slots yd y a3 hc_x hs_x hR; exact absurd (show (none : Option (yz_Y × Unit)) = some q from hR) (fun z => by cases z)
  | succ n ih =>
    intro cells slots yd y a3 hc_x hs_x hR
    rw [mX7_go_b19.eq_2] at hR
    refine zr_iload_n C dX7_go_19 rfl ?_
    refine zr_iconst (v := 4) C dX7_go_20 (by decide) ?_
    refine zr_icmp_ge (tgt := 358) C dX7_go_21 (by decide) hR (fun hR => ?_) (fun hR => ?_)
    · exact zr_sub (lv9 := [some (.ref (yd 0)), some (.int a1), some (.ref (yd (10 + k2))), none, none, none]) (And.intro rfl (And.intro rfl (And.intro rfl trivial))) (mbX7_go_b358 C hr  yd _ (by omega) (by omega) hR)
    · refine zr_aload_n C dX7_go_24 rfl ?_
      refine zr_getF C fl_RX7_49 rfl dX7_go_25 hR (fun hR => ?_)
      refine zr_aload_n C dX7_go_28 rfl ?_
      refine zr_getF C fl_RX7_43 rfl dX7_go_29 hR (fun hR => ?_)
      refine zr_alen5 C dX7_go_32 hR (fun hR => ?_)
      refine zr_icmp_ge (tgt := 358) C dX7_go_33 (by decide) hR (fun hR => ?_) (fun hR => ?_)
      · exact zr_sub (lv9 := [some (.ref (yd 0)), some (.int a1), some (.ref (yd (10 + k2))), none, none, none]) (And.intro rfl (And.intro rfl (And.intro rfl trivial))) (mbX7_go_b358 C hr  yd _ (by omega) (by omega) hR)
      · refine zr_aload_n C dX7_go_36 rfl ?_
        refine zr_getF C fl_RX7_49 rfl dX7_go_37 hR (fun hR => ?_)
        refine zr_istore C dX7_go_40 rfl (by decide) ?_
        refine zr_aload_n C dX7_go_42 rfl ?_
        refine zr_getF C fl_RX7_43 rfl dX7_go_43 hR (fun hR => ?_)
        refine zr_iload C dX7_go_46 rfl ?_
        refine zr_aald5 C dX7_go_48 hR (fun hR => ?_)
        refine zr_astore C dX7_go_49 rfl (by decide) ?_
        refine zr_aload C dX7_go_51 rfl ?_
        refine zr_iconst (v := 0) C dX7_go_53 (by decide) ?_
        refine zr_iald C dX7_go_54 hR (fun hR => ?_)
        refine zr_if_eq (tgt := 67) C dX7_go_55 (by decide) hR (fun hR => ?_) (fun hR => ?_)
        · exact zr_sub (lv9 := [some (.ref (yd 0)), some (.int a1), some (.ref (yd (10 + k2))), some (.int a3), some (.int (y.1 (10 + k2) 2)), some (.ref (yd (40 + (12 * k2 + (Int32.toNatClampNeg (y.1 (10 + k2) 2))))))]) (And.intro rfl (And.intro rfl (And.intro rfl (And.intro rfl (And.intro rfl (And.intro rfl trivial)))))) (mbX7_go_b67 C hr (NK19 := (3 * n + 21)) (MK19 := (39 * n + 273)) (fun yd y z3 h1 h2 h3 => ih yd y z3 (by omega) (by omega) h3) yd _ (by omega) (by omega) (by omega) (by omega) hR)
        · refine zr_aload C dX7_go_58 rfl ?_
          refine zr_iconst (v := 0) C dX7_go_60 (by decide) ?_
          refine zr_iald C dX7_go_61 hR (fun hR => ?_)
          refine zr_bipush (v := 6) C dX7_go_62 (by decide) ?_
          refine zr_icmp_ne (tgt := 119) C dX7_go_64 (by decide) hR (fun hR => ?_) (fun hR => ?_)
          · refine zr_aload C dX7_go_119 rfl ?_
            refine zr_iconst (v := 0) C dX7_go_121 (by decide) ?_
            refine zr_iald C dX7_go_122 hR (fun hR => ?_)
            refine zr_iconst (v := 1) C dX7_go_123 (by decide) ?_
            refine zr_icmp_ne (tgt := 211) C dX7_go_124 (by decide) hR (fun hR => ?_) (fun hR => ?_)
            · refine zr_aload C dX7_go_211 rfl ?_
              refine zr_iconst (v := 0) C dX7_go_213 (by decide) ?_
              refine zr_iald C dX7_go_214 hR (fun hR => ?_)
              refine zr_iconst (v := 4) C dX7_go_215 (by decide) ?_
              refine zr_icmp_ne (tgt := 242) C dX7_go_216 (by decide) hR (fun hR => ?_) (fun hR => ?_)
              · exact zr_sub (lv9 := [some (.ref (yd 0)), some (.int a1), some (.ref (yd (10 + k2))), some (.int a3), some (.int (y.1 (10 + k2) 2)), some (.ref (yd (40 + (12 * k2 + (Int32.toNatClampNeg (y.1 (10 + k2) 2))))))]) (And.intro rfl (And.intro rfl (And.intro rfl (And.intro rfl (And.intro rfl (And.intro rfl trivial)))))) (mbX7_go_b242 C hr (NK19 := (3 * n + 21)) (MK19 := (39 * n + 273)) (fun yd y z3 h1 h2 h3 => ih yd y z3 (by omega) (by omega) h3) yd _ (by omega) (by omega) (by omega) (by omega) hR)
              · refine zr_aload_n C dX7_go_219 rfl ?_
                refine zr_getS C fl_RX7_20 rfl dX7_go_220 ?_
                refine zr_aload C dX7_go_223 rfl ?_
                refine zr_iconst (v := 1) C dX7_go_225 (by decide) ?_
                refine zr_iald C dX7_go_226 hR (fun hR => ?_)
                refine zr_aald4 C dX7_go_227 hR (fun hR => ?_)
                refine zr_getF C fl_RX7_55 rfl dX7_go_228 hR (fun hR => ?_)
                refine zr_iconst (v := 5) C dX7_go_231 (by decide) ?_
                refine zr_icmp_eq (tgt := 242) C dX7_go_232 (by decide) hR (fun hR => ?_) (fun hR => ?_)
                · exact zr_sub (lv9 := [some (.ref (yd 0)), some (.int a1), some (.ref (yd (10 + k2))), some (.int a3), some (.int (y.1 (10 + k2) 2)), some (.ref (yd (40 + (12 * k2 + (Int32.toNatClampNeg (y.1 (10 + k2) 2))))))]) (And.intro rfl (And.intro rfl (And.intro rfl (And.intro rfl (And.intro rfl (And.intro rfl trivial)))))) (mbX7_go_b242 C hr (NK19 := (3 * n + 21)) (MK19 := (39 * n + 273)) (fun yd y z3 h1 h2 h3 => ih yd y z3 (by omega) (by omega) h3) yd _ (by omega) (by omega) (by omega) (by omega) hR)
                · refine zr_aload_n C dX7_go_235 rfl ?_
                  refine zr_iload_n C dX7_go_236 rfl ?_
                  refine zr_iconst (v := 4) C dX7_go_237 (by decide) ?_
                  refine zr_callVv C (st := []) [.int a1, .int (4 : Int32)] cv_RX7_86 (fun k z => ⟨by have z1 := z.1; omega, by have z2 := z.2; omega⟩) (fun _ zz => zcX7_waitIn l G zz) rfl ⟨Nat.le_of_ble_eq_true rfl, Nat.le_of_ble_eq_true rfl⟩ (Nat.le_of_ble_eq_true rfl) ⟨by show _ ≤ 36; omega, by show _ ≤ 468; omega⟩ rfl dX7_go_238 hR (fun r27 hr27 hR yd28 hy29 => ?_)
                  exact zq_v C hr (by omega) (by omega) dX7_go_241 hR
            · refine zr_aload_n C dX7_go_127 rfl ?_
              refine zr_getS C fl_RX7_14 rfl dX7_go_128 ?_
              refine zr_aload C dX7_go_131 rfl ?_
              refine zr_iconst (v := 1) C dX7_go_133 (by decide) ?_
              refine zr_iald C dX7_go_134 hR (fun hR => ?_)
              refine zr_aald3 C dX7_go_135 hR (fun hR => ?_)
              refine zr_alen2 C dX7_go_136 hR (fun hR => ?_)
              refine zr_if_ne (tgt := 147) C dX7_go_137 (by decide) hR (fun hR => ?_) (fun hR => ?_)
              · refine zr_aload_n C dX7_go_147 rfl ?_
                refine zr_dup C dX7_go_148 rfl ?_
                refine zr_getF C fl_RX7_52 rfl dX7_go_149 hR (fun hR => ?_)
                refine zr_aload_n C dX7_go_152 rfl ?_
                refine zr_getS C fl_RX7_14 rfl dX7_go_153 ?_
                refine zr_aload C dX7_go_156 rfl ?_
                refine zr_iconst (v := 1) C dX7_go_158 (by decide) ?_
                refine zr_iald C dX7_go_159 hR (fun hR => ?_)
                refine zr_aald3 C dX7_go_160 hR (fun hR => ?_)
                refine zr_iconst (v := 0) C dX7_go_161 (by decide) ?_
                refine zr_iald C dX7_go_162 hR (fun hR => ?_)
                refine zr_iadd C dX7_go_163 ?_
                refine zr_putF C (by decide) fl_RX7_52 zpf_6_3 dX7_go_164 hR (fun y30 hR => ?_)
                refine zr_aload_n C dX7_go_167 rfl ?_
                refine zr_getS C fl_RX7_14 rfl dX7_go_168 ?_
                refine zr_aload C dX7_go_171 rfl ?_
                refine zr_iconst (v := 1) C dX7_go_173 (by decide) ?_
                refine zr_iald C dX7_go_174 hR (fun hR => ?_)
                refine zr_aload_n C dX7_go_175 rfl ?_
                refine zr_getS C fl_RX7_14 rfl dX7_go_176 ?_
                refine zr_aload C dX7_go_179 rfl ?_
                refine zr_iconst (v := 1) C dX7_go_181 (by decide) ?_
                refine zr_iald C dX7_go_182 hR (fun hR => ?_)
                refine zr_aald3 C dX7_go_183 hR (fun hR => ?_)
                refine zr_iconst (v := 0) C dX7_go_184 (by decide) ?_
                refine zr_withoutD C (fun j h1 h2 => ⟨by omega, by omega⟩) cs_RX7_75 ⟨Nat.le_of_ble_eq_true rfl, Nat.le_of_ble_eq_true rfl⟩ (Nat.le_of_ble_eq_true rfl) ⟨by show _ ≤ 36; omega, by show _ ≤ 468; omega⟩ dX7_go_185 dX7_go_188 hR (fun y31 hR yd32 hy33 => ?_)
                rw [← hy33 0 (by omega)]
                rw [← hy33 (10 + k2) (by omega)]
                rw [← hy33 (40 + (12 * k2 + (Int32.toNatClampNeg (y.1 (10 + k2) 2)))) (by omega)]
                refine zr_aload_n C dX7_go_189 rfl ?_
                refine zr_dup C dX7_go_190 rfl ?_
                refine zr_getF C fl_RX7_49 rfl dX7_go_191 hR (fun hR => ?_)
                refine zr_iconst (v := 1) C dX7_go_194 (by decide) ?_
                refine zr_iadd C dX7_go_195 ?_
                refine zr_putF C (by decide) fl_RX7_49 zpf_6_2 dX7_go_196 hR (fun y34 hR => ?_)
                refine zr_aload_n C dX7_go_199 rfl ?_
                refine zr_iconst (v := 1) C dX7_go_200 (by decide) ?_
                refine zr_aload C dX7_go_201 rfl ?_
                refine zr_iconst (v := 1) C dX7_go_203 (by decide) ?_
                refine zr_iald C dX7_go_204 hR (fun hR => ?_)
                refine zr_callVv C (st := []) [.int (1 : Int32), .int (y34.1 (40 + (12 * k2 + (Int32.toNatClampNeg (y.1 (10 + k2) 2)))) (Int32.toNatClampNeg (1 : Int32)))] cv_RX7_78 (fun k z => ⟨by have z1 := z.1; omega, by have z2 := z.2; omega⟩) (fun _ zz => zcX7_wake l G zz) rfl ⟨Nat.le_of_ble_eq_true rfl, Nat.le_of_ble_eq_true rfl⟩ (Nat.le_of_ble_eq_true rfl) ⟨by show _ ≤ 36; omega, by show _ ≤ 468; omega⟩ rfl dX7_go_205 hR (fun r35 hr35 hR yd36 hy37 => ?_)
                rw [← hy37 0 (fun z => by have z1 := z.1; have z2 := z.2; omega)]
                rw [← hy37 (10 + k2) (fun z => by have z1 := z.1; have z2 := z.2; omega)]
                rw [← hy37 (40 + (12 * k2 + (Int32.toNatClampNeg (y.1 (10 + k2) 2)))) (fun z => by have z1 := z.1; have z2 := z.2; omega)]
                refine zr_goto (tgt := 304) C dX7_go_208 (by decide) ?_
                exact zr_sub (lv9 := [some (.ref (yd36 0)), some (.int a1), some (.ref (yd36 (10 + k2))), some (.int a3), none, some (.ref (yd36 (40 + (12 * k2 + (Int32.toNatClampNeg (y.1 (10 + k2) 2))))))]) (And.intro rfl (And.intro rfl (And.intro rfl (And.intro rfl (And.intro rfl trivial))))) (mbX7_go_b304 C hr (NK19 := (3 * n + 21)) (MK19 := (39 * n + 273)) (fun yd y z3 h1 h2 h3 => ih yd y z3 (by omega) (by omega) h3) yd36 _ (by omega) (by omega) (by omega) (by omega) hR)
              · refine zr_aload_n C dX7_go_140 rfl ?_
                refine zr_iload_n C dX7_go_141 rfl ?_
                refine zr_iconst (v := 2) C dX7_go_142 (by decide) ?_
                refine zr_callVv C (st := []) [.int a1, .int (2 : Int32)] cv_RX7_86 (fun k z => ⟨by have z1 := z.1; omega, by have z2 := z.2; omega⟩) (fun _ zz => zcX7_waitIn l G zz) rfl ⟨Nat.le_of_ble_eq_true rfl, Nat.le_of_ble_eq_true rfl⟩ (Nat.le_of_ble_eq_true rfl) ⟨by show _ ≤ 36; omega, by show _ ≤ 468; omega⟩ rfl dX7_go_143 hR (fun r38 hr38 hR yd39 hy40 => ?_)
                exact zq_v C hr (by omega) (by omega) dX7_go_146 hR
          · exact zr_sub (lv9 := [some (.ref (yd 0)), some (.int a1), some (.ref (yd (10 + k2))), some (.int a3), some (.int (y.1 (10 + k2) 2)), some (.ref (yd (40 + (12 * k2 + (Int32.toNatClampNeg (y.1 (10 + k2) 2))))))]) (And.intro rfl (And.intro rfl (And.intro rfl (And.intro rfl (And.intro rfl (And.intro rfl trivial)))))) (mbX7_go_b67 C hr (NK19 := (3 * n + 21)) (MK19 := (39 * n + 273)) (fun yd y z3 h1 h2 h3 => ih yd y z3 (by omega) (by omega) h3) yd _ (by omega) (by omega) (by omega) (by omega) hR)
set_option maxHeartbeats 4000000 in
set_option maxRecDepth 100000 in
theorem zcX7_go (l : Launch) (G : xw_G) {a1 : Int32} {yS : Nat → Nat} {h : xw_M} {y : yz_Y} {q : yz_Y × Unit} (hR : mX7_go  a1 y = some q) : zc_G l G yX7_go cX7_go 6 none 4 91 36 468 [.ref (yS 0), .int a1] (zPr G yS h y) (zPo G (zCh 4 9) yS h q.1 (fun _ => none)) := by
  refine zc_of (by decide +kernel) rfl (Nat.le_of_ble_eq_true rfl) ?_
  intro p e s m args below meth c C hr hP
  have C : zj_C p s m args meth c G RX7 cX7_go 6 := C
  obtain ⟨yd, e9⟩ : ∃ yd : Nat → Nat, yd = yS := ⟨_, rfl⟩
  have e0 : yS 0 = yd 0 := by rw [e9]
  refine zr_eqH (Pr2 := yz_W G (zCh 4 9) yS yd h y) (fun H e => by rw [e, e9]; exact ⟨hP.1, hP.2.1, hP.2.2.1, fun _ _ => rfl⟩) ?_
  rw [e0]
  clear e0 e9 hP
  show zj_X p l e { frames := 4, cells := 36, slots := 468, locals := 91 } s m args below meth c G 6 0 0 (MQ below (zc_Q G (zPo G (zCh 4 9) yS h q.1 (fun _ => none))) args s 36 468 (xg_B G)) (yz_W G (zCh 4 9) yS yd h y) [some (.ref (yd 0)), some (.int a1), none, none, none, none] 0 []
  unfold mX7_go at hR
  refine zr_aload_n C dX7_go_0 rfl ?_
  refine zr_getS C fl_RX7_20 rfl dX7_go_1 ?_
  refine zr_iload_n C dX7_go_4 rfl ?_
  refine zr_aald4 C dX7_go_5 hR (fun hR => ?_)
  refine zr_astore_n C dX7_go_6 rfl (by decide) ?_
  refine zr_aload_n C dX7_go_7 rfl ?_
  refine zr_dup C dX7_go_8 rfl ?_
  refine zr_getF C fl_RX7_64 rfl dX7_go_9 hR (fun hR => ?_)
  refine zr_iconst (v := 1) C dX7_go_12 (by decide) ?_
  refine zr_iadd C dX7_go_13 ?_
  refine zr_putF C (by decide) fl_RX7_64 zpf_6_7 dX7_go_14 hR (fun y1 hR => ?_)
  refine zr_iconst (v := 0) C dX7_go_17 (by decide) ?_
  refine zr_istore_n C dX7_go_18 rfl (by decide) ?_
  exact zr_sub (lv9 := [some (.ref (yd 0)), some (.int a1), some (.ref (yd (10 + (Int32.toNatClampNeg a1)))), some (.int (0 : Int32)), none, none]) (And.intro rfl (And.intro rfl (And.intro rfl (And.intro rfl trivial)))) (mbX7_go_b19 C hr  _ yd _ _ (by omega) (by omega) hR)
end
section
def mX7_pass_b106  (a1 : Int32) (y : yz_Y)  : Option (yz_Y × Int32) := xo_let (yz_st y 0 0 ((y.1 0 0) + (1 : Int32))) fun y7 => (if a1 = 0 ∨ a1 = 1 then some (y7, a1) else none)
def mX7_pass_b64   (y : yz_Y) (as0 : Int32) : Option (yz_Y × Int32) := (if as0 = 0 then if (yz_is y 4 2 && xo_ix (0 : Int32) (y.2 4)) = true then if (yz_is y 4 2 && decide (y.2 4 ≤ 13) && xo_ix (0 : Int32) (y.2 4)) = true then (xo_let (yz_rem y 4 (0 : Int32)) fun y1 => (mX7_go  (y.1 4 (Int32.toNatClampNeg (0 : Int32))) y1).bind fun r4 => mX7_pass_b106  (as0) r4.1 ) else none else none else xo_let (yz_st y 0 1 ((y.1 0 1) + (1 : Int32))) fun y8 => mX7_pass_b106  (as0) y8 )
def mX7_pass_b45 (K2 : yz_Y → Int32 → Option (yz_Y × Int32)) (a1 : Int32) (y : yz_Y)  : Option (yz_Y × Int32) := K2 y ((a1 + 1))
def mX7_pass_b2   : Nat → yz_Y → Int32 → Option (yz_Y × Int32)
  | 0, _, _ => none
  | n + 1, y, a1 => (if (nI (y.2 3)) ≤ a1 then if yz_is y 4 2 = true then (if (nI (y.2 4)) = 0 then mX7_pass_b64   y ((1 : Int32)) else mX7_pass_b64   y ((0 : Int32))) else none else if xo_ix a1 (y.2 3) = true then if yz_is y (10 + (Int32.toNatClampNeg a1)) 1 = true then (if (y.1 (10 + (Int32.toNatClampNeg a1)) 4) = (3 : Int32) then if xo_ix a1 (y.2 3) = true then if yz_is y (10 + (Int32.toNatClampNeg a1)) 1 = true then (if (y.1 (10 + (Int32.toNatClampNeg a1)) 5) = (y.1 0 0) then (mX7_ready  a1 y).bind fun r9 => mX7_pass_b45 (mX7_pass_b2   n) (a1) r9.1  else mX7_pass_b45 (mX7_pass_b2   n) (a1) y ) else none else none else mX7_pass_b45 (mX7_pass_b2   n) (a1) y ) else none else none)
def mX7_pass  (y : yz_Y) : Option (yz_Y × Int32) := mX7_pass_b2   9 y ((0 : Int32))
set_option maxHeartbeats 4000000 in
set_option maxRecDepth 100000 in
theorem mbX7_pass_b106 {p : Program} {l : Launch} {e : Env} {s : State} {m : MethodId} {args : Array Value} {below : List Frame} {meth : Method} {c : Code} {G : xw_G} (C : zj_C p s m args meth c G RX7 cX7_pass 3) (hr : meth.sig.returnType = (some .boolean)) {yS : Nat → Nat} {h : xw_M} {q : yz_Y × Int32} {a1 : Int32}  {cells slots : Nat} (yd : Nat → Nat) (y : yz_Y)  (hc_x : cells + (0) ≤ 46) (hs_x : slots + (0) ≤ 598) (hR : mX7_pass_b106  a1 y  = some q) : zj_X p l e { frames := 5, cells := 46, slots := 598, locals := 116 } s m args below meth c G 3 cells slots (MQ below (zc_Q G (zPo G (zCh 4 9) yS h q.1 (fun _ => some (.int q.2)))) args s 46 598 (xg_B G)) (yz_W G (zCh 4 9) yS yd h y) [some (.ref (yd 0)), some (.int a1), none] 106 [] := by
  unfold mX7_pass_b106 at hR
  refine zr_aload_n C dX7_pass_106 rfl ?_
  refine zr_dup C dX7_pass_107 rfl ?_
  refine zr_getS C fl_RX7_31 rfl dX7_pass_108 ?_
  refine zr_iconst (v := 1) C dX7_pass_111 (by decide) ?_
  refine zr_iadd C dX7_pass_112 ?_
  refine zr_putS C (by decide) fl_RX7_31 zpf_7_0 dX7_pass_113 hR (fun y7 hR => ?_)
  refine zr_iload_n C dX7_pass_116 rfl ?_
  exact zq_zG C hr (by omega) (by omega) dX7_pass_117 hR
set_option maxHeartbeats 4000000 in
set_option maxRecDepth 100000 in
theorem mbX7_pass_b64 {p : Program} {l : Launch} {e : Env} {s : State} {m : MethodId} {args : Array Value} {below : List Frame} {meth : Method} {c : Code} {G : xw_G} (C : zj_C p s m args meth c G RX7 cX7_pass 3) (hr : meth.sig.returnType = (some .boolean)) {yS : Nat → Nat} {h : xw_M} {q : yz_Y × Int32}  {cells slots : Nat} (yd : Nat → Nat) (y : yz_Y) (as0 : Int32) (hc_x : cells + (37) ≤ 46) (hs_x : slots + (481) ≤ 598) (hR : mX7_pass_b64   y as0 = some q) : zj_X p l e { frames := 5, cells := 46, slots := 598, locals := 116 } s m args below meth c G 3 cells slots (MQ below (zc_Q G (zPo G (zCh 4 9) yS h q.1 (fun _ => some (.int q.2)))) args s 46 598 (xg_B G)) (yz_W G (zCh 4 9) yS yd h y) [some (.ref (yd 0)), none, none] 64 [.int as0] := by
  unfold mX7_pass_b64 at hR
  refine zr_istore_n C dX7_pass_64 rfl (by decide) ?_
  refine zr_iload_n C dX7_pass_65 rfl ?_
  refine zr_if_eq (tgt := 82) C dX7_pass_66 (by decide) hR (fun hR => ?_) (fun hR => ?_)
  · refine zr_aload_n C dX7_pass_82 rfl ?_
    refine zr_getS C fl_RX7_24 rfl dX7_pass_83 ?_
    refine zr_iconst (v := 0) C dX7_pass_86 (by decide) ?_
    refine zr_iald C dX7_pass_87 hR (fun hR => ?_)
    refine zr_istore_n C dX7_pass_88 rfl (by decide) ?_
    refine zr_aload_n C dX7_pass_89 rfl ?_
    refine zr_aload_n C dX7_pass_90 rfl ?_
    refine zr_getS C fl_RX7_24 rfl dX7_pass_91 ?_
    refine zr_iconst (v := 0) C dX7_pass_94 (by decide) ?_
    refine zr_withoutS C (by decide) ⟨by omega, by omega⟩ cs_RX7_75 fl_RX7_24 zpr_7_5 ⟨Nat.le_of_ble_eq_true rfl, Nat.le_of_ble_eq_true rfl⟩ (Nat.le_of_ble_eq_true rfl) ⟨by show _ ≤ 46; omega, by show _ ≤ 598; omega⟩ dX7_pass_95 dX7_pass_98 hR (fun y1 hR yd2 hy3 => ?_)
    rw [← hy3 0 (by omega)]
    refine zr_aload_n C dX7_pass_101 rfl ?_
    refine zr_iload_n C dX7_pass_102 rfl ?_
    refine zr_callVv C (st := []) [.int (y.1 4 (Int32.toNatClampNeg (0 : Int32)))] cv_RX7_89 (fun k z => ⟨by have z1 := z.1; omega, by have z2 := z.2; omega⟩) (fun _ zz => zcX7_go l G zz) rfl ⟨Nat.le_of_ble_eq_true rfl, Nat.le_of_ble_eq_true rfl⟩ (Nat.le_of_ble_eq_true rfl) ⟨by show _ ≤ 46; omega, by show _ ≤ 598; omega⟩ rfl dX7_pass_103 hR (fun r4 hr4 hR yd5 hy6 => ?_)
    rw [← hy6 0 (fun z => by have z1 := z.1; have z2 := z.2; omega)]
    exact zr_sub (lv9 := [some (.ref (yd5 0)), some (.int as0), none]) (And.intro rfl (And.intro rfl trivial)) (mbX7_pass_b106 C hr  yd5 _ (by omega) (by omega) hR)
  · refine zr_aload_n C dX7_pass_69 rfl ?_
    refine zr_dup C dX7_pass_70 rfl ?_
    refine zr_getS C fl_RX7_35 rfl dX7_pass_71 ?_
    refine zr_iconst (v := 1) C dX7_pass_74 (by decide) ?_
    refine zr_iadd C dX7_pass_75 ?_
    refine zr_putS C (by decide) fl_RX7_35 zpf_7_1 dX7_pass_76 hR (fun y8 hR => ?_)
    refine zr_goto (tgt := 106) C dX7_pass_79 (by decide) ?_
    exact zr_sub (lv9 := [some (.ref (yd 0)), some (.int as0), none]) (And.intro rfl (And.intro rfl trivial)) (mbX7_pass_b106 C hr  yd _ (by omega) (by omega) hR)
set_option maxHeartbeats 4000000 in
set_option maxRecDepth 100000 in
theorem mbX7_pass_b45 {p : Program} {l : Launch} {e : Env} {s : State} {m : MethodId} {args : Array Value} {below : List Frame} {meth : Method} {c : Code} {G : xw_G} (C : zj_C p s m args meth c G RX7 cX7_pass 3) (hr : meth.sig.returnType = (some .boolean)) {yS : Nat → Nat} {h : xw_M} {q : yz_Y × Int32} {NK2 MK2 : Nat} {K2 : yz_Y → Int32 → Option (yz_Y × Int32)} {a1 : Int32} (hK2 : ∀ {cells slots : Nat} (yd : Nat → Nat) (y : yz_Y) (a1 : Int32), cells + NK2 ≤ 46 → slots + MK2 ≤ 598 → K2 y a1 = some q → zj_X p l e { frames := 5, cells := 46, slots := 598, locals := 116 } s m args below meth c G 3 cells slots (MQ below (zc_Q G (zPo G (zCh 4 9) yS h q.1 (fun _ => some (.int q.2)))) args s 46 598 (xg_B G)) (yz_W G (zCh 4 9) yS yd h y) [some (.ref (yd 0)), some (.int a1), none] 2 []) {cells slots : Nat} (yd : Nat → Nat) (y : yz_Y)  (hc_2 : cells + (0 + NK2) ≤ 46) (hs_2 : slots + (0 + MK2) ≤ 598) (hR : mX7_pass_b45 K2 a1 y  = some q) : zj_X p l e { frames := 5, cells := 46, slots := 598, locals := 116 } s m args below meth c G 3 cells slots (MQ below (zc_Q G (zPo G (zCh 4 9) yS h q.1 (fun _ => some (.int q.2)))) args s 46 598 (xg_B G)) (yz_W G (zCh 4 9) yS yd h y) [some (.ref (yd 0)), some (.int a1), none] 45 [] := by
  unfold mX7_pass_b45 at hR
  refine zr_iinc (v := 1) C dX7_pass_45 rfl (by decide) rfl (by decide) ?_
  refine zr_goto (tgt := 2) C dX7_pass_48 (by decide) ?_
  exact zr_sub (lv9 := [some (.ref (yd 0)), some (.int (a1 + 1)), none]) (And.intro rfl (And.intro rfl trivial)) (hK2 yd _ _ (by omega) (by omega) hR)
set_option maxHeartbeats 4000000 in
set_option maxRecDepth 100000 in
theorem mbX7_pass_b2 {p : Program} {l : Launch} {e : Env} {s : State} {m : MethodId} {args : Array Value} {below : List Frame} {meth : Method} {c : Code} {G : xw_G} (C : zj_C p s m args meth c G RX7 cX7_pass 3) (hr : meth.sig.returnType = (some .boolean)) {yS : Nat → Nat} {h : xw_M} {q : yz_Y × Int32}  : ∀ (n : Nat) {cells slots : Nat} (yd : Nat → Nat) (y : yz_Y) (a1 : Int32), cells + (1 * n + 37) ≤ 46 → slots + (13 * n + 481) ≤ 598 → mX7_pass_b2   n y a1 = some q → zj_X p l e { frames := 5, cells := 46, slots := 598, locals := 116 } s m args below meth c G 3 cells slots (MQ below (zc_Q G (zPo G (zCh 4 9) yS h q.1 (fun _ => some (.int q.2)))) args s 46 598 (xg_B G)) (yz_W G (zCh 4 9) yS yd h y) [some (.ref (yd 0)), some (.int a1), none] 2 [] := by
  intro n
  induction n with
  | zero => intro cells slots yd y a1 hc_x hs_x hR; exact absurd (show (none : Option (yz_Y × Int32)) = some q from hR) (fun z => by cases z)
  | succ n ih =>
    intro cells slots yd y a1 hc_x hs_x hR
    rw [mX7_pass_b2.eq_2] at hR
    refine zr_iload_n C dX7_pass_2 rfl ?_
    refine zr_aload_n C dX7_pass_3 rfl ?_
    refine zr_getS C fl_RX7_20 rfl dX7_pass_4 ?_
    refine zr_alen4 C dX7_pass_7 ?_
    refine zr_icmp_ge (tgt := 51) C dX7_pass_8 (by decide) hR (fun hR => ?_) (fun hR => ?_)
    · refine zr_aload_n C dX7_pass_51 rfl ?_
      refine zr_getS C fl_RX7_24 rfl dX7_pass_52 ?_
      refine zr_alen2 C dX7_pass_55 hR (fun hR => ?_)
      refine zr_if_ne (tgt := 63) C dX7_pass_56 (by decide) hR (fun hR => ?_) (fun hR => ?_)
      · refine zr_iconst (v := 0) C dX7_pass_63 (by decide) ?_
        exact zr_sub (lv9 := [some (.ref (yd 0)), none, none]) (And.intro rfl trivial) (mbX7_pass_b64 C hr  yd _ _ (by omega) (by omega) hR)
      · refine zr_iconst (v := 1) C dX7_pass_59 (by decide) ?_
        refine zr_goto (tgt := 64) C dX7_pass_60 (by decide) ?_
        exact zr_sub (lv9 := [some (.ref (yd 0)), none, none]) (And.intro rfl trivial) (mbX7_pass_b64 C hr  yd _ _ (by omega) (by omega) hR)
    · refine zr_aload_n C dX7_pass_11 rfl ?_
      refine zr_getS C fl_RX7_20 rfl dX7_pass_12 ?_
      refine zr_iload_n C dX7_pass_15 rfl ?_
      refine zr_aald4 C dX7_pass_16 hR (fun hR => ?_)
      refine zr_getF C fl_RX7_55 rfl dX7_pass_17 hR (fun hR => ?_)
      refine zr_iconst (v := 3) C dX7_pass_20 (by decide) ?_
      refine zr_icmp_ne (tgt := 45) C dX7_pass_21 (by decide) hR (fun hR => ?_) (fun hR => ?_)
      · exact zr_sub (lv9 := [some (.ref (yd 0)), some (.int a1), none]) (And.intro rfl (And.intro rfl trivial)) (mbX7_pass_b45 C hr (NK2 := (1 * n + 37)) (MK2 := (13 * n + 481)) (fun yd y z1 h1 h2 h3 => ih yd y z1 (by omega) (by omega) h3) yd _ (by omega) (by omega) hR)
      · refine zr_aload_n C dX7_pass_24 rfl ?_
        refine zr_getS C fl_RX7_20 rfl dX7_pass_25 ?_
        refine zr_iload_n C dX7_pass_28 rfl ?_
        refine zr_aald4 C dX7_pass_29 hR (fun hR => ?_)
        refine zr_getF C fl_RX7_58 rfl dX7_pass_30 hR (fun hR => ?_)
        refine zr_aload_n C dX7_pass_33 rfl ?_
        refine zr_getS C fl_RX7_31 rfl dX7_pass_34 ?_
        refine zr_icmp_ne (tgt := 45) C dX7_pass_37 (by decide) hR (fun hR => ?_) (fun hR => ?_)
        · exact zr_sub (lv9 := [some (.ref (yd 0)), some (.int a1), none]) (And.intro rfl (And.intro rfl trivial)) (mbX7_pass_b45 C hr (NK2 := (1 * n + 37)) (MK2 := (13 * n + 481)) (fun yd y z1 h1 h2 h3 => ih yd y z1 (by omega) (by omega) h3) yd _ (by omega) (by omega) hR)
        · refine zr_aload_n C dX7_pass_40 rfl ?_
          refine zr_iload_n C dX7_pass_41 rfl ?_
          refine zr_callVv C (st := []) [.int a1] cv_RX7_71 (fun k z => ⟨by have z1 := z.1; omega, by have z2 := z.2; omega⟩) (fun _ zz => zcX7_ready l G zz) rfl ⟨Nat.le_of_ble_eq_true rfl, Nat.le_of_ble_eq_true rfl⟩ (Nat.le_of_ble_eq_true rfl) ⟨by show _ ≤ 46; omega, by show _ ≤ 598; omega⟩ rfl dX7_pass_42 hR (fun r9 hr9 hR yd10 hy11 => ?_)
          rw [← hy11 0 (fun z => by have z1 := z.1; have z2 := z.2; omega)]
          exact zr_sub (lv9 := [some (.ref (yd10 0)), some (.int a1), none]) (And.intro rfl (And.intro rfl trivial)) (mbX7_pass_b45 C hr (NK2 := (1 * n + 37)) (MK2 := (13 * n + 481)) (fun yd y z1 h1 h2 h3 => ih yd y z1 (by omega) (by omega) h3) yd10 _ (by omega) (by omega) hR)
set_option maxHeartbeats 4000000 in
set_option maxRecDepth 100000 in
theorem zcX7_pass (l : Launch) (G : xw_G)  {yS : Nat → Nat} {h : xw_M} {y : yz_Y} {q : yz_Y × Int32} (hR : mX7_pass   y = some q) : zc_G l G yX7_pass cX7_pass 3 (some .boolean) 5 116 46 598 [.ref (yS 0)] (zPr G yS h y) (zPo G (zCh 4 9) yS h q.1 (fun _ => some (.int q.2))) := by
  refine zc_of (by decide +kernel) rfl (Nat.le_of_ble_eq_true rfl) ?_
  intro p e s m args below meth c C hr hP
  have C : zj_C p s m args meth c G RX7 cX7_pass 3 := C
  obtain ⟨yd, e9⟩ : ∃ yd : Nat → Nat, yd = yS := ⟨_, rfl⟩
  have e0 : yS 0 = yd 0 := by rw [e9]
  refine zr_eqH (Pr2 := yz_W G (zCh 4 9) yS yd h y) (fun H e => by rw [e, e9]; exact ⟨hP.1, hP.2.1, hP.2.2.1, fun _ _ => rfl⟩) ?_
  rw [e0]
  clear e0 e9 hP
  show zj_X p l e { frames := 5, cells := 46, slots := 598, locals := 116 } s m args below meth c G 3 0 0 (MQ below (zc_Q G (zPo G (zCh 4 9) yS h q.1 (fun _ => some (.int q.2)))) args s 46 598 (xg_B G)) (yz_W G (zCh 4 9) yS yd h y) [some (.ref (yd 0)), none, none] 0 []
  unfold mX7_pass at hR
  refine zr_iconst (v := 0) C dX7_pass_0 (by decide) ?_
  refine zr_istore_n C dX7_pass_1 rfl (by decide) ?_
  exact zr_sub (lv9 := [some (.ref (yd 0)), some (.int (0 : Int32)), none]) (And.intro rfl (And.intro rfl trivial)) (mbX7_pass_b2 C hr  _ yd _ _ (by omega) (by omega) hR)
end
section
def mX7_pass__b22 (K4 : yz_Y → Int32 → Int32 → Option (yz_Y × Int32)) (a1 : Int32) (a3 : Int32) (y : yz_Y) (as0 : Int32) (as1 : Int32) : Option (yz_Y × Int32) := K4 y ((as1 + as0)) ((a3 + 1))
def mX7_pass__b4  (a1 : Int32) : Nat → yz_Y → Int32 → Int32 → Option (yz_Y × Int32)
  | 0, _, _, _ => none
  | n + 1, y, a2, a3 => (if a1 ≤ a3 then some (y, a2) else (mX7_pass   y).bind fun r1 => (if r1.2 = 0 then mX7_pass__b22 (mX7_pass__b4  a1 n) (a1) (a3) r1.1 ((0 : Int32)) (a2) else mX7_pass__b22 (mX7_pass__b4  a1 n) (a1) (a3) r1.1 ((1 : Int32)) (a2)))
def mX7_pass_ (a1 : Int32) (y : yz_Y) : Option (yz_Y × Int32) := mX7_pass__b4  (a1) 61 y ((0 : Int32)) ((0 : Int32))
set_option maxHeartbeats 4000000 in
set_option maxRecDepth 100000 in
theorem mbX7_pass__b22 {p : Program} {l : Launch} {e : Env} {s : State} {m : MethodId} {args : Array Value} {below : List Frame} {meth : Method} {c : Code} {G : xw_G} (C : zj_C p s m args meth c G RX7 cX7_pass_ 4) (hr : meth.sig.returnType = (some .int)) {yS : Nat → Nat} {h : xw_M} {q : yz_Y × Int32} {NK4 MK4 : Nat} {K4 : yz_Y → Int32 → Int32 → Option (yz_Y × Int32)} {a1 : Int32} {a3 : Int32} (hK4 : ∀ {cells slots : Nat} (yd : Nat → Nat) (y : yz_Y) (a2 : Int32) (a3 : Int32), cells + NK4 ≤ 2806 → slots + MK4 ≤ 36478 → K4 y a2 a3 = some q → zj_X p l e { frames := 6, cells := 2806, slots := 36478, locals := 138 } s m args below meth c G 4 cells slots (MQ below (zc_Q G (zPo G (zCh 4 9) yS h q.1 (fun _ => some (.int q.2)))) args s 2806 36478 (xg_B G)) (yz_W G (zCh 4 9) yS yd h y) [some (.ref (yd 0)), some (.int a1), some (.int a2), some (.int a3)] 4 []) {cells slots : Nat} (yd : Nat → Nat) (y : yz_Y) (as0 : Int32) (as1 : Int32) (hc_4 : cells + (0 + NK4) ≤ 2806) (hs_4 : slots + (0 + MK4) ≤ 36478) (hR : mX7_pass__b22 K4 a1 a3 y as0 as1 = some q) : zj_X p l e { frames := 6, cells := 2806, slots := 36478, locals := 138 } s m args below meth c G 4 cells slots (MQ below (zc_Q G (zPo G (zCh 4 9) yS h q.1 (fun _ => some (.int q.2)))) args s 2806 36478 (xg_B G)) (yz_W G (zCh 4 9) yS yd h y) [some (.ref (yd 0)), some (.int a1), none, some (.int a3)] 22 [.int as0, .int as1] := by
  unfold mX7_pass__b22 at hR
  refine zr_iadd C dX7_pass__22 ?_
  refine zr_istore_n C dX7_pass__23 rfl (by decide) ?_
  refine zr_iinc (v := 1) C dX7_pass__24 rfl (by decide) rfl (by decide) ?_
  refine zr_goto (tgt := 4) C dX7_pass__27 (by decide) ?_
  exact zr_sub (lv9 := [some (.ref (yd 0)), some (.int a1), some (.int (as1 + as0)), some (.int (a3 + 1))]) (And.intro rfl (And.intro rfl (And.intro rfl (And.intro rfl trivial)))) (hK4 yd _ _ _ (by omega) (by omega) hR)
set_option maxHeartbeats 4000000 in
set_option maxRecDepth 100000 in
theorem mbX7_pass__b4 {p : Program} {l : Launch} {e : Env} {s : State} {m : MethodId} {args : Array Value} {below : List Frame} {meth : Method} {c : Code} {G : xw_G} (C : zj_C p s m args meth c G RX7 cX7_pass_ 4) (hr : meth.sig.returnType = (some .int)) {yS : Nat → Nat} {h : xw_M} {q : yz_Y × Int32} {a1 : Int32}  : ∀ (n : Nat) {cells slots : Nat} (yd : Nat → Nat) (y : yz_Y) (a2 : Int32) (a3 : Int32), cells + (46 * n + 0) ≤ 2806 → slots + (598 * n + 0) ≤ 36478 → mX7_pass__b4  a1 n y a2 a3 = some q → zj_X p l e { frames := 6, cells := 2806, slots := 36478, locals := 138 } s m args below meth c G 4 cells slots (MQ below (zc_Q G (zPo G (zCh 4 9) yS h q.1 (fun _ => some (.int q.2)))) args s 2806 36478 (xg_B G)) (yz_W G (zCh 4 9) yS yd h y) [some (.ref (yd 0)), some (.int a1), some (.int a2), some (.int a3)] 4 [] := by
  intro n
  induction n with
  | zero => intro cells slots yd y a2 a3 hc_x hs_x hR; exact absurd (show (none : Option (yz_Y × Int32)) = some q from hR) (fun z => by cases z)
  | succ n ih =>
    intro cells slots yd y a2 a3 hc_x hs_x hR
    rw [mX7_pass__b4.eq_2] at hR
    refine zr_iload_n C dX7_pass__4 rfl ?_
    refine zr_iload_n C dX7_pass__5 rfl ?_
    refine zr_icmp_ge (tgt := 30) C dX7_pass__6 (by decide) hR (fun hR => ?_) (fun hR => ?_)
    · refine zr_iload_n C dX7_pass__30 rfl ?_
      exact zq_i C hr (by omega) (by omega) dX7_pass__31 hR
    · refine zr_iload_n C dX7_pass__9 rfl ?_
      refine zr_aload_n C dX7_pass__10 rfl ?_
      refine zr_callVi C (st := [.int a2]) [] cv_RX7_92 (fun k z => ⟨by have z1 := z.1; omega, by have z2 := z.2; omega⟩) (fun _ zz => zcX7_pass l G zz) rfl ⟨Nat.le_of_ble_eq_true rfl, Nat.le_of_ble_eq_true rfl⟩ (Nat.le_of_ble_eq_true rfl) ⟨by show _ ≤ 2806; omega, by show _ ≤ 36478; omega⟩ rfl dX7_pass__11 hR (fun r1 hr1 hR yd2 hy3 => ?_)
      rw [← hy3 0 (fun z => by have z1 := z.1; have z2 := z.2; omega)]
      refine zr_if_eq (tgt := 21) C dX7_pass__14 (by decide) hR (fun hR => ?_) (fun hR => ?_)
      · refine zr_iconst (v := 0) C dX7_pass__21 (by decide) ?_
        exact zr_sub (lv9 := [some (.ref (yd2 0)), some (.int a1), none, some (.int a3)]) (And.intro rfl (And.intro rfl (And.intro rfl trivial))) (mbX7_pass__b22 C hr (NK4 := (46 * n + 0)) (MK4 := (598 * n + 0)) (fun yd y z2 z3 h1 h2 h3 => ih yd y z2 z3 (by omega) (by omega) h3) yd2 _ _ _ (by omega) (by omega) hR)
      · refine zr_iconst (v := 1) C dX7_pass__17 (by decide) ?_
        refine zr_goto (tgt := 22) C dX7_pass__18 (by decide) ?_
        exact zr_sub (lv9 := [some (.ref (yd2 0)), some (.int a1), none, some (.int a3)]) (And.intro rfl (And.intro rfl (And.intro rfl trivial))) (mbX7_pass__b22 C hr (NK4 := (46 * n + 0)) (MK4 := (598 * n + 0)) (fun yd y z2 z3 h1 h2 h3 => ih yd y z2 z3 (by omega) (by omega) h3) yd2 _ _ _ (by omega) (by omega) hR)
set_option maxHeartbeats 4000000 in
set_option maxRecDepth 100000 in
theorem zcX7_pass_ (l : Launch) (G : xw_G) {a1 : Int32} {yS : Nat → Nat} {h : xw_M} {y : yz_Y} {q : yz_Y × Int32} (hR : mX7_pass_  a1 y = some q) : zc_G l G yX7_pass_ cX7_pass_ 4 (some .int) 6 138 2806 36478 [.ref (yS 0), .int a1] (zPr G yS h y) (zPo G (zCh 4 9) yS h q.1 (fun _ => some (.int q.2))) := by
  refine zc_of (by decide +kernel) rfl (Nat.le_of_ble_eq_true rfl) ?_
  intro p e s m args below meth c C hr hP
  have C : zj_C p s m args meth c G RX7 cX7_pass_ 4 := C
  obtain ⟨yd, e9⟩ : ∃ yd : Nat → Nat, yd = yS := ⟨_, rfl⟩
  have e0 : yS 0 = yd 0 := by rw [e9]
  refine zr_eqH (Pr2 := yz_W G (zCh 4 9) yS yd h y) (fun H e => by rw [e, e9]; exact ⟨hP.1, hP.2.1, hP.2.2.1, fun _ _ => rfl⟩) ?_
  rw [e0]
  clear e0 e9 hP
  show zj_X p l e { frames := 6, cells := 2806, slots := 36478, locals := 138 } s m args below meth c G 4 0 0 (MQ below (zc_Q G (zPo G (zCh 4 9) yS h q.1 (fun _ => some (.int q.2)))) args s 2806 36478 (xg_B G)) (yz_W G (zCh 4 9) yS yd h y) [some (.ref (yd 0)), some (.int a1), none, none] 0 []
  unfold mX7_pass_ at hR
  refine zr_iconst (v := 0) C dX7_pass__0 (by decide) ?_
  refine zr_istore_n C dX7_pass__1 rfl (by decide) ?_
  refine zr_iconst (v := 0) C dX7_pass__2 (by decide) ?_
  refine zr_istore_n C dX7_pass__3 rfl (by decide) ?_
  exact zr_sub (lv9 := [some (.ref (yd 0)), some (.int a1), some (.int (0 : Int32)), some (.int (0 : Int32))]) (And.intro rfl (And.intro rfl (And.intro rfl (And.intro rfl trivial)))) (mbX7_pass__b4 C hr  _ yd _ _ _ (by omega) (by omega) hR)
end
