section
def mL_below (a0 : Int32) (a1 : Int32) (y : yz_Y) : Option (yz_Y × Int32) := if a1 = 0 then none else some (y, ((a0 &&& (2147483647 : Int32)) - (a0 &&& (2147483647 : Int32)) / a1 * a1))
set_option maxHeartbeats 4000000 in
set_option maxRecDepth 100000 in
theorem zcL_below (l : Launch) (G : xw_G) {a0 : Int32} {a1 : Int32} {yS : Nat → Nat} {h : xw_M} {y : yz_Y} {q : yz_Y × Int32} (hR : mL_below  a0 a1 y = some q) : zc_G l G yL_below cL_below 2 (some .int) 0 0 0 0 [.int a0, .int a1] (zPr G yS h y) (zPo G (zCh 1 0) yS h q.1 (fun _ => some (.int q.2))) := by
  refine zc_of (by decide +kernel) rfl (Nat.le_of_ble_eq_true rfl) ?_
  intro p e s m args below meth c C hr hP
  have C : zj_C p s m args meth c G RL cL_below 2 := C
  obtain ⟨yd, e9⟩ : ∃ yd : Nat → Nat, yd = yS := ⟨_, rfl⟩
  have e0 : yS 0 = yd 0 := by rw [e9]
  refine zr_eqH (Pr2 := yz_W G (zCh 1 0) yS yd h y) (fun H e => by rw [e, e9]; exact ⟨hP.1, hP.2.1, hP.2.2.1, fun _ _ => rfl⟩) ?_
  clear e0 e9 hP
  show zj_X p l e { frames := 0, cells := 0, slots := 0, locals := 0 } s m args below meth c G 2 0 0 (MQ below (zc_Q G (zPo G (zCh 1 0) yS h q.1 (fun _ => some (.int q.2)))) args s 0 0 (xg_B G)) (yz_W G (zCh 1 0) yS yd h y) [some (.int a0), some (.int a1)] 0 []
  unfold mL_below at hR
  refine zr_iload_n C dL_below_0 rfl ?_
  refine zr_ldc (v := 2147483647) C dL_below_1 (lw_g_in (by decide +kernel) (by decide +kernel)) ?_
  refine zr_iand C dL_below_3 ?_
  refine zr_iload_n C dL_below_4 rfl ?_
  refine zr_irem C dL_below_5 hR (fun hR => ?_)
  exact zq_i C hr (by omega) (by omega) dL_below_6 hR
end
section
def mL_cell (L9 : Nat) (xs9 : Nat → Int32) (a1 : Int32) (y : yz_Y) : Option (yz_Y × Int32) := (if (nI L9) ≤ a1 then some (y, ((790386105 : Int32) * (a1 + (3 : Int32)))) else if xo_ix a1 L9 = true then some (y, (xs9 (Int32.toNatClampNeg a1))) else none)
set_option maxHeartbeats 4000000 in
set_option maxRecDepth 100000 in
theorem zcL_cell (l : Launch) (G : xw_G) {a1 : Int32} {yS : Nat → Nat} {h : xw_M} {y : yz_Y} {q : yz_Y × Int32} (hR : mL_cell (xg_L G) (xg_xs G) a1 y = some q) : zc_G l G yL_cell cL_cell 2 (some .int) 0 0 0 0 [.ref (xg_b G), .int a1] (zPr G yS h y) (zPo G (zCh 1 0) yS h q.1 (fun _ => some (.int q.2))) := by
  refine zc_of (by decide +kernel) rfl (Nat.le_of_ble_eq_true rfl) ?_
  intro p e s m args below meth c C hr hP
  have C : zj_C p s m args meth c G RL cL_cell 2 := C
  obtain ⟨yd, e9⟩ : ∃ yd : Nat → Nat, yd = yS := ⟨_, rfl⟩
  have e0 : yS 0 = yd 0 := by rw [e9]
  refine zr_eqH (Pr2 := yz_W G (zCh 1 0) yS yd h y) (fun H e => by rw [e, e9]; exact ⟨hP.1, hP.2.1, hP.2.2.1, fun _ _ => rfl⟩) ?_
  clear e0 e9 hP
  show zj_X p l e { frames := 0, cells := 0, slots := 0, locals := 0 } s m args below meth c G 2 0 0 (MQ below (zc_Q G (zPo G (zCh 1 0) yS h q.1 (fun _ => some (.int q.2)))) args s 0 0 (xg_B G)) (yz_W G (zCh 1 0) yS yd h y) [some (.ref (xg_b G)), some (.int a1)] 0 []
  unfold mL_cell at hR
  refine zr_iload_n C dL_cell_0 rfl ?_
  refine zr_aload_n C dL_cell_1 rfl ?_
  refine zr_slen C dL_cell_2 ?_
  refine zr_icmp_ge (tgt := 12) C dL_cell_3 (by decide) hR (fun hR => ?_) (fun hR => ?_)
  · refine zr_ldc (v := 790386105) C dL_cell_12 (lw_g_in (by decide +kernel) (by decide +kernel)) ?_
    refine zr_iload_n C dL_cell_14 rfl ?_
    refine zr_iconst (v := 3) C dL_cell_15 (by decide) ?_
    refine zr_iadd C dL_cell_16 ?_
    refine zr_imul C dL_cell_17 ?_
    exact zq_i C hr (by omega) (by omega) dL_cell_18 hR
  · refine zr_aload_n C dL_cell_6 rfl ?_
    refine zr_iload_n C dL_cell_7 rfl ?_
    refine zr_sld C dL_cell_8 hR (fun hR => ?_)
    refine zr_goto (tgt := 18) C dL_cell_9 (by decide) ?_
    exact zq_i C hr (by omega) (by omega) dL_cell_18 hR
end
section
def mL_act_b70  (a3 : Int32) (a6 : Int32) (a7 : Int32) (a8 : Int32) (h : xw_M) (y : yz_Y)  : Option (xw_M × yz_Y × Int32) := (mX5_addChannel 350 a8 h).bind fun r7 => (if r7.2.2 = 0 then (if r7.2.1 = a3 then (if a6 = 0 then some (r7.1, y, (0 : Int32)) else some (r7.1, y, (1 : Int32))) else some (r7.1, y, (0 : Int32))) else if r7.2.2 = 1 then (if a7 = 0 then some (r7.1, y, (1 : Int32)) else some (r7.1, y, (0 : Int32))) else if r7.2.2 = 2 then (if a7 = 0 then some (r7.1, y, (0 : Int32)) else (if a6 = 0 then some (r7.1, y, (1 : Int32)) else some (r7.1, y, (0 : Int32)))) else none)
def mL_act_b46  (a2 : Int32) (a3 : Int32) (a7 : Int32) (h : xw_M) (y : yz_Y) (as0 : Int32) : Option (xw_M × yz_Y × Int32) := (mL_below  (a2 >>> ((4 : Int32) &&& 31)) (4 : Int32) y).bind fun r4 => (if as0 = 0 then mL_act_b70  (a3) (as0) (a7) (((1 : Int32) + r4.2)) h r4.1  else (mX7_addChannel  ((1 : Int32) + r4.2) r4.1).bind fun r8 => mL_act_b70  (a3) (as0) (a7) (((1 : Int32) + r4.2)) h r8.1 )
def mL_act_b36  (a2 : Int32) (a3 : Int32) (a7 : Int32) (h : xw_M) (y : yz_Y)  : Option (xw_M × yz_Y × Int32) := (if (4 : Int32) ≤ a3 then mL_act_b46  (a2) (a3) (a7) h y ((0 : Int32)) else mL_act_b46  (a2) (a3) (a7) h y ((1 : Int32)))
def mL_act_b125  (a4 : Int32) (a6 : Int32) (a7 : Int32) (h : xw_M) (y : yz_Y)  : Option (xw_M × yz_Y × Int32) := (mX5_addFiber 350 h).bind fun r11 => (if r11.2.2 = 0 then (if r11.2.1 = a4 then (if a6 = 0 then some (r11.1, y, (0 : Int32)) else some (r11.1, y, (1 : Int32))) else some (r11.1, y, (0 : Int32))) else if r11.2.2 = 1 then (if a7 = 0 then some (r11.1, y, (1 : Int32)) else some (r11.1, y, (0 : Int32))) else if r11.2.2 = 2 then (if a7 = 0 then some (r11.1, y, (0 : Int32)) else (if a6 = 0 then some (r11.1, y, (1 : Int32)) else some (r11.1, y, (0 : Int32)))) else none)
def mL_act_b114  (a4 : Int32) (a7 : Int32) (h : xw_M) (y : yz_Y) (as0 : Int32) : Option (xw_M × yz_Y × Int32) := (if as0 = 0 then mL_act_b125  (a4) (as0) (a7) h y  else (mX7_addFiber   y).bind fun r12 => mL_act_b125  (a4) (as0) (a7) h r12.1 )
def mL_act_b102  (a4 : Int32) (a7 : Int32) (h : xw_M) (y : yz_Y)  : Option (xw_M × yz_Y × Int32) := (if (8 : Int32) ≤ a4 then mL_act_b114  (a4) (a7) h y ((0 : Int32)) else mL_act_b114  (a4) (a7) h y ((1 : Int32)))
def mL_act_b486  (a6 : Int32) (a7 : Int32) (h : xw_M) (y : yz_Y) (as0 : Int32) (as1 : Int32) (as2 : Int32) : Option (xw_M × yz_Y × Int32) := (mL_below  as1 as0 y).bind fun r18 => (mX5_run 350 (as2 + r18.2) h).bind fun r21 => (if r21.2.2 = 0 then (mX7_pass_  (as2 + r18.2) r18.1).bind fun r22 => (if r21.2.1 = r22.2 then some (r21.1, r22.1, (1 : Int32)) else some (r21.1, r22.1, (0 : Int32))) else if r21.2.2 = 1 then (if a7 = 0 then some (r21.1, r18.1, (1 : Int32)) else some (r21.1, r18.1, (0 : Int32))) else if r21.2.2 = 2 then (if a7 = 0 then some (r21.1, r18.1, (0 : Int32)) else (if a6 = 0 then some (r21.1, r18.1, (1 : Int32)) else some (r21.1, r18.1, (0 : Int32)))) else none)
def mL_act_b360  (a6 : Int32) (a7 : Int32) (a8 : Int32) (a9 : Int32) (a10 : Int32) (a11 : Int32) (a12 : Int32) (h : xw_M) (y : yz_Y)  : Option (xw_M × yz_Y × Int32) := (mX5_addStep 350 a8 a9 a10 a11 h).bind fun r56 => (if r56.2.2 = 0 then (if r56.2.1 = a12 then (if a7 = 0 then some (r56.1, y, (0 : Int32)) else (if a6 = 0 then some (r56.1, y, (0 : Int32)) else some (r56.1, y, (1 : Int32)))) else some (r56.1, y, (0 : Int32))) else if r56.2.2 = 1 then (if a7 = 0 then some (r56.1, y, (1 : Int32)) else some (r56.1, y, (0 : Int32))) else if r56.2.2 = 2 then (if a7 = 0 then some (r56.1, y, (0 : Int32)) else (if a6 = 0 then some (r56.1, y, (1 : Int32)) else some (r56.1, y, (0 : Int32)))) else none)
def mL_act_b336  (a7 : Int32) (a8 : Int32) (a9 : Int32) (a10 : Int32) (a11 : Int32) (a12 : Int32) (h : xw_M) (y : yz_Y) (as0 : Int32) : Option (xw_M × yz_Y × Int32) := (if a7 = 0 then mL_act_b360  (as0) (a7) (a8) (a9) (a10) (a11) (a12) h y  else (if as0 = 0 then mL_act_b360  (as0) (a7) (a8) (a9) (a10) (a11) (a12) h y  else (mX7_addStep  a8 a9 a10 a11 y).bind fun r57 => mL_act_b360  (as0) (a7) (a8) (a9) (a10) (a11) (a12) h r57.1 ))
def mL_act_b295  (a6 : Int32) (a7 : Int32) (a8 : Int32) (a9 : Int32) (a10 : Int32) (h : xw_M) (y : yz_Y) (as0 : Int32) : Option (xw_M × yz_Y × Int32) := (mX7_canAdd  a8 a9 a10 as0 y).bind fun r53 => if xo_ix a8 (r53.1.2 3) = true then if yz_is r53.1 (10 + (Int32.toNatClampNeg a8)) 1 = true then if yz_is r53.1 (20 + (Int32.toNatClampNeg a8)) 5 = true then (if (12 : Int32) ≤ (nI (r53.1.2 (20 + (Int32.toNatClampNeg a8)))) then mL_act_b336  (r53.2) (a8) (a9) (a10) (as0) ((nI (r53.1.2 (20 + (Int32.toNatClampNeg a8))))) h r53.1 ((0 : Int32)) else mL_act_b336  (r53.2) (a8) (a9) (a10) (as0) ((nI (r53.1.2 (20 + (Int32.toNatClampNeg a8))))) h r53.1 ((1 : Int32))) else none else none else none
def mL_act_b263  (a2 : Int32) (a6 : Int32) (a7 : Int32) (a8 : Int32) (a9 : Int32) (h : xw_M) (y : yz_Y) (as0 : Int32) : Option (xw_M × yz_Y × Int32) := (if a9 = (5 : Int32) then (mL_below  (a2 >>> ((4 : Int32) &&& 31)) (3 : Int32) y).bind fun r60 => mL_act_b295  (a6) (a7) (a8) (a9) (as0) h r60.1 (((1 : Int32) + r60.2)) else (mL_below  (a2 >>> ((2 : Int32) &&& 31)) (200 : Int32) y).bind fun r50 => mL_act_b295  (a6) (a7) (a8) (a9) (as0) h r50.1 ((r50.2 - (99 : Int32))))
def mL_act_b260  (a2 : Int32) (a6 : Int32) (a7 : Int32) (a8 : Int32) (a9 : Int32) (h : xw_M) (y : yz_Y) (as0 : Int32) (as1 : Int32) : Option (xw_M × yz_Y × Int32) := (mL_below  as1 as0 y).bind fun r47 => mL_act_b263  (a2) (a6) (a7) (a8) (a9) h r47.1 (r47.2)
def mL_act_b215  (a2 : Int32) (a3 : Int32) (a4 : Int32) (a6 : Int32) (a7 : Int32) (a8 : Int32) (h : xw_M) (y : yz_Y) (as0 : Int32) : Option (xw_M × yz_Y × Int32) := (if as0 = (2 : Int32) then (mL_below  (a2 >>> ((3 : Int32) &&& 31)) (5 : Int32) y).bind fun r63 => mL_act_b263  (a2) (a6) (a7) (a8) (as0) h r63.1 (((1 : Int32) + r63.2)) else (if as0 = (4 : Int32) then mL_act_b260  (a2) (a6) (a7) (a8) (as0) h y (a4) ((a2 >>> ((5 : Int32) &&& 31))) else (if as0 = (5 : Int32) then mL_act_b260  (a2) (a6) (a7) (a8) (as0) h y ((4 : Int32)) ((a2 >>> ((5 : Int32) &&& 31))) else mL_act_b260  (a2) (a6) (a7) (a8) (as0) h y (a3) ((a2 >>> ((5 : Int32) &&& 31))))))
def mL_act (a2 : Int32) (h : xw_M) (y : yz_Y) : Option (xw_M × yz_Y × Int32) := if yz_is y 1 2 = true then (mL_below  a2 (16 : Int32) y).bind fun r1 => (if (nI (y.2 1)) = 0 then mL_act_b36  (a2) ((nI (y.2 1))) ((1 : Int32)) h r1.1  else (if r1.2 = 0 then mL_act_b36  (a2) ((nI (y.2 1))) ((1 : Int32)) h r1.1  else (if (nI (y.2 3)) = 0 then mL_act_b102  ((nI (y.2 3))) ((1 : Int32)) h r1.1  else (if r1.2 = (1 : Int32) then mL_act_b102  ((nI (y.2 3))) ((1 : Int32)) h r1.1  else (if (9 : Int32) ≤ r1.2 then (if (11 : Int32) ≤ r1.2 then (mL_below  (a2 >>> ((8 : Int32) &&& 31)) (6 : Int32) r1.1).bind fun r15 => (if r15.2 = 0 then mL_act_b486  ((1 : Int32)) ((1 : Int32)) h r15.1 ((60 : Int32)) ((a2 >>> ((4 : Int32) &&& 31))) ((1 : Int32)) else mL_act_b486  ((1 : Int32)) ((1 : Int32)) h r15.1 ((5 : Int32)) ((a2 >>> ((4 : Int32) &&& 31))) ((1 : Int32))) else (mL_below  (a2 >>> ((4 : Int32) &&& 31)) (nI (y.2 1)) r1.1).bind fun r25 => (mL_below  (a2 >>> ((6 : Int32) &&& 31)) (200 : Int32) r25.1).bind fun r28 => (mX7_isSent  r25.2 (r28.2 - (99 : Int32)) r28.1).bind fun r31 => (mX5_pour 350 r25.2 (r28.2 - (99 : Int32)) h).bind fun r34 => (if r34.2.2 = 0 then if xo_ix r25.2 (r31.1.2 2) = true then if yz_is r31.1 (6 + (Int32.toNatClampNeg r25.2)) 2 = true then (if r34.2.1 = (nI (r31.1.2 (6 + (Int32.toNatClampNeg r25.2)))) then (if r31.2 = 0 then some (r34.1, r31.1, (0 : Int32)) else some (r34.1, r31.1, (1 : Int32))) else some (r34.1, r31.1, (0 : Int32))) else none else none else if r34.2.2 = 1 then (if (1 : Int32) = 0 then some (r34.1, r31.1, (1 : Int32)) else some (r34.1, r31.1, (0 : Int32))) else if r34.2.2 = 2 then (if (1 : Int32) = 0 then some (r34.1, r31.1, (0 : Int32)) else (if r31.2 = 0 then some (r34.1, r31.1, (1 : Int32)) else some (r34.1, r31.1, (0 : Int32)))) else none)) else (mL_below  (a2 >>> ((4 : Int32) &&& 31)) (nI (y.2 3)) r1.1).bind fun r35 => (mL_below  (a2 >>> ((7 : Int32) &&& 31)) (4 : Int32) r35.1).bind fun r38 => (if r38.2 = 0 then (mL_below  (a2 >>> ((5 : Int32) &&& 31)) (7 : Int32) r38.1).bind fun r69 => mL_act_b215  (a2) ((nI (y.2 1))) ((nI (y.2 3))) ((1 : Int32)) ((1 : Int32)) (r35.2) h r69.1 (r69.2) else (mL_below  (a2 >>> ((6 : Int32) &&& 31)) (2 : Int32) r38.1).bind fun r41 => (if r41.2 = 0 then (mL_below  (a2 >>> ((9 : Int32) &&& 31)) (2 : Int32) r41.1).bind fun r66 => mL_act_b215  (a2) ((nI (y.2 1))) ((nI (y.2 3))) ((1 : Int32)) ((1 : Int32)) (r35.2) h r66.1 (r66.2) else (mL_below  (a2 >>> ((8 : Int32) &&& 31)) (7 : Int32) r41.1).bind fun r44 => mL_act_b215  (a2) ((nI (y.2 1))) ((nI (y.2 3))) ((1 : Int32)) ((1 : Int32)) (r35.2) h r44.1 (r44.2)))))))) else none
set_option maxHeartbeats 4000000 in
set_option maxRecDepth 100000 in
theorem mbL_act_b70 {p : Program} {l : Launch} {e : Env} {s : State} {m : MethodId} {args : Array Value} {below : List Frame} {meth : Method} {c : Code} {G : xw_G} (C : zj_C p s m args meth c G RL cL_act 13) (hr : meth.sig.returnType = (some .boolean)) (hl : l.stackTraces = false) (htab : c.exceptionTable.toList = tableOf [(27, 90, 513, 73), (91, 144, 513, 73), (145, 392, 513, 73), (393, 463, 513, 73), (464, 512, 513, 73), (27, 90, 526, 75), (91, 144, 526, 75), (145, 392, 526, 75), (393, 463, 526, 75), (464, 512, 526, 75)]) {yS : Nat → Nat} {q : xw_M × yz_Y × Int32} {a3 : Int32} {a6 : Int32} {a7 : Int32} {a8 : Int32}  {cells slots : Nat} (yd : Nat → Nat) (h : xw_M) (y : yz_Y)  (hc_x : cells + (1) ≤ 2806) (hs_x : slots + (6) ≤ 36478) (hR : mL_act_b70  a3 a6 a7 a8 h y  = some q) : zj_X p l e { frames := 8, cells := 2806, slots := 36478, locals := 161 } s m args below meth c G 13 cells slots (MQ below (zc_Q G (zPo G (zCh 1 139) yS q.1 q.2.1 (fun _ => some (.int q.2.2)))) args s 2806 36478 (xg_B G)) (yz_W G (zCh 1 139) yS yd h y) [some (.ref (xg_ad G 350)), none, none, some (.int a3), none, none, some (.int a6), some (.int a7), some (.int a8), none, none, none, none] 70 [] := by
  unfold mL_act_b70 at hR
  refine zr_aload_n C dL_act_70 rfl ?_
  refine zr_iload C dL_act_71 rfl ?_
  refine zr_callX C (st := []) (t1 := 513) (t2 := 526) [.int a8] htab cv_RL_29 (fun _ zz zq => mcX5_addChannel l G kd_350 zz zq) (fun _ zz zq => mtX5_addChannel l G hl kd_350 zz zq) hx_L_act_73_1 hx_L_act_73_2 rfl ⟨Nat.le_of_ble_eq_true rfl, Nat.le_of_ble_eq_true rfl⟩ (Nat.le_of_ble_eq_true rfl) ⟨by show _ ≤ 2806; omega, by show _ ≤ 36478; omega⟩ rfl dL_act_73 hR (fun r7 hr7 hR => ?_) (fun r7 hr7 hR q9 => ?_) (fun r7 hr7 hR q9 => ?_)
  · refine zr_iload_n C dL_act_76 rfl ?_
    refine zr_icmp_ne (tgt := 89) C dL_act_77 (by decide) hR (fun hR => ?_) (fun hR => ?_)
    · refine zr_iconst (v := 0) C dL_act_89 (by decide) ?_
      exact zq_zh C hr (Or.inl rfl) (by omega) (by omega) dL_act_90 hR
    · refine zr_iload C dL_act_80 rfl ?_
      refine zr_if_eq (tgt := 89) C dL_act_82 (by decide) hR (fun hR => ?_) (fun hR => ?_)
      · refine zr_iconst (v := 0) C dL_act_89 (by decide) ?_
        exact zq_zh C hr (Or.inl rfl) (by omega) (by omega) dL_act_90 hR
      · refine zr_iconst (v := 1) C dL_act_85 (by decide) ?_
        refine zr_goto (tgt := 90) C dL_act_86 (by decide) ?_
        exact zq_zh C hr (Or.inr rfl) (by omega) (by omega) dL_act_90 hR
  · refine zr_astore C dL_act_513 rfl (by decide) ?_
    refine zr_iload C dL_act_515 rfl ?_
    refine zr_if_ne (tgt := 524) C dL_act_517 (by decide) hR (fun hR => ?_) (fun hR => ?_)
    · refine zr_iconst (v := 0) C dL_act_524 (by decide) ?_
      exact zq_zh C hr (Or.inl rfl) (by omega) (by omega) dL_act_525 hR
    · refine zr_iconst (v := 1) C dL_act_520 (by decide) ?_
      refine zr_goto (tgt := 525) C dL_act_521 (by decide) ?_
      exact zq_zh C hr (Or.inr rfl) (by omega) (by omega) dL_act_525 hR
  · refine zr_astore C dL_act_526 rfl (by decide) ?_
    refine zr_iload C dL_act_528 rfl ?_
    refine zr_if_eq (tgt := 542) C dL_act_530 (by decide) hR (fun hR => ?_) (fun hR => ?_)
    · refine zr_iconst (v := 0) C dL_act_542 (by decide) ?_
      exact zq_zh C hr (Or.inl rfl) (by omega) (by omega) dL_act_543 hR
    · refine zr_iload C dL_act_533 rfl ?_
      refine zr_if_ne (tgt := 542) C dL_act_535 (by decide) hR (fun hR => ?_) (fun hR => ?_)
      · refine zr_iconst (v := 0) C dL_act_542 (by decide) ?_
        exact zq_zh C hr (Or.inl rfl) (by omega) (by omega) dL_act_543 hR
      · refine zr_iconst (v := 1) C dL_act_538 (by decide) ?_
        refine zr_goto (tgt := 543) C dL_act_539 (by decide) ?_
        exact zq_zh C hr (Or.inr rfl) (by omega) (by omega) dL_act_543 hR
set_option maxHeartbeats 4000000 in
set_option maxRecDepth 100000 in
theorem mbL_act_b46 {p : Program} {l : Launch} {e : Env} {s : State} {m : MethodId} {args : Array Value} {below : List Frame} {meth : Method} {c : Code} {G : xw_G} (C : zj_C p s m args meth c G RL cL_act 13) (hr : meth.sig.returnType = (some .boolean)) (hl : l.stackTraces = false) (htab : c.exceptionTable.toList = tableOf [(27, 90, 513, 73), (91, 144, 513, 73), (145, 392, 513, 73), (393, 463, 513, 73), (464, 512, 513, 73), (27, 90, 526, 75), (91, 144, 526, 75), (145, 392, 526, 75), (393, 463, 526, 75), (464, 512, 526, 75)]) {yS : Nat → Nat} {q : xw_M × yz_Y × Int32} {a2 : Int32} {a3 : Int32} {a7 : Int32}  {cells slots : Nat} (yd : Nat → Nat) (h : xw_M) (y : yz_Y) (as0 : Int32) (hc_x : cells + (4) ≤ 2806) (hs_x : slots + (26) ≤ 36478) (hR : mL_act_b46  a2 a3 a7 h y as0 = some q) : zj_X p l e { frames := 8, cells := 2806, slots := 36478, locals := 161 } s m args below meth c G 13 cells slots (MQ below (zc_Q G (zPo G (zCh 1 139) yS q.1 q.2.1 (fun _ => some (.int q.2.2)))) args s 2806 36478 (xg_B G)) (yz_W G (zCh 1 139) yS yd h y) [some (.ref (xg_ad G 350)), some (.ref (yd 0)), some (.int a2), some (.int a3), none, none, none, some (.int a7), none, none, none, none, none] 46 [.int as0] := by
  unfold mL_act_b46 at hR
  refine zr_istore C dL_act_46 rfl (by decide) ?_
  refine zr_iconst (v := 1) C dL_act_48 (by decide) ?_
  refine zr_iload_n C dL_act_49 rfl ?_
  refine zr_iconst (v := 4) C dL_act_50 (by decide) ?_
  refine zr_ishr C dL_act_51 ?_
  refine zr_iconst (v := 4) C dL_act_52 (by decide) ?_
  refine zr_callSi C (st := [.int (1 : Int32)]) [.int (a2 >>> ((4 : Int32) &&& 31)), .int (4 : Int32)] cs_RL_19 (fun k z => ⟨by have z1 := z.1; omega, by have z2 := z.2; omega⟩) (fun _ zz => zcL_below l G zz) rfl ⟨Nat.le_of_ble_eq_true rfl, Nat.le_of_ble_eq_true rfl⟩ (Nat.le_of_ble_eq_true rfl) ⟨by show _ ≤ 2806; omega, by show _ ≤ 36478; omega⟩ rfl dL_act_53 hR (fun r4 hr4 hR yd5 hy6 => ?_)
  rw [← hy6 0 (fun z => by have z1 := z.1; have z2 := z.2; omega)]
  refine zr_iadd C dL_act_56 ?_
  refine zr_istore C dL_act_57 rfl (by decide) ?_
  refine zr_iload C dL_act_59 rfl ?_
  refine zr_if_eq (tgt := 70) C dL_act_61 (by decide) hR (fun hR => ?_) (fun hR => ?_)
  · exact zr_sub (lv9 := [some (.ref (xg_ad G 350)), none, none, some (.int a3), none, none, some (.int as0), some (.int a7), some (.int ((1 : Int32) + r4.2)), none, none, none, none]) (And.intro rfl (And.intro rfl (And.intro rfl (And.intro rfl (And.intro rfl trivial))))) (mbL_act_b70 C hr hl htab  yd5 _ _ (by omega) (by omega) hR)
  · refine zr_aload_n C dL_act_64 rfl ?_
    refine zr_iload C dL_act_65 rfl ?_
    refine zr_callVv C (st := []) [.int ((1 : Int32) + r4.2)] cv_RL_25 (fun k z => ⟨by have z1 := z.1; omega, by have z2 := z.2; omega⟩) (fun _ zz => zcX7_addChannel l G zz) rfl ⟨Nat.le_of_ble_eq_true rfl, Nat.le_of_ble_eq_true rfl⟩ (Nat.le_of_ble_eq_true rfl) ⟨by show _ ≤ 2806; omega, by show _ ≤ 36478; omega⟩ rfl dL_act_67 hR (fun r8 hr8 hR yd9 hy10 => ?_)
    exact zr_sub (lv9 := [some (.ref (xg_ad G 350)), none, none, some (.int a3), none, none, some (.int as0), some (.int a7), some (.int ((1 : Int32) + r4.2)), none, none, none, none]) (And.intro rfl (And.intro rfl (And.intro rfl (And.intro rfl (And.intro rfl trivial))))) (mbL_act_b70 C hr hl htab  yd9 _ _ (by omega) (by omega) hR)
set_option maxHeartbeats 4000000 in
set_option maxRecDepth 100000 in
theorem mbL_act_b36 {p : Program} {l : Launch} {e : Env} {s : State} {m : MethodId} {args : Array Value} {below : List Frame} {meth : Method} {c : Code} {G : xw_G} (C : zj_C p s m args meth c G RL cL_act 13) (hr : meth.sig.returnType = (some .boolean)) (hl : l.stackTraces = false) (htab : c.exceptionTable.toList = tableOf [(27, 90, 513, 73), (91, 144, 513, 73), (145, 392, 513, 73), (393, 463, 513, 73), (464, 512, 513, 73), (27, 90, 526, 75), (91, 144, 526, 75), (145, 392, 526, 75), (393, 463, 526, 75), (464, 512, 526, 75)]) {yS : Nat → Nat} {q : xw_M × yz_Y × Int32} {a2 : Int32} {a3 : Int32} {a7 : Int32}  {cells slots : Nat} (yd : Nat → Nat) (h : xw_M) (y : yz_Y)  (hc_x : cells + (4) ≤ 2806) (hs_x : slots + (26) ≤ 36478) (hR : mL_act_b36  a2 a3 a7 h y  = some q) : zj_X p l e { frames := 8, cells := 2806, slots := 36478, locals := 161 } s m args below meth c G 13 cells slots (MQ below (zc_Q G (zPo G (zCh 1 139) yS q.1 q.2.1 (fun _ => some (.int q.2.2)))) args s 2806 36478 (xg_B G)) (yz_W G (zCh 1 139) yS yd h y) [some (.ref (xg_ad G 350)), some (.ref (yd 0)), some (.int a2), some (.int a3), none, none, none, some (.int a7), none, none, none, none, none] 36 [] := by
  unfold mL_act_b36 at hR
  refine zr_iload_n C dL_act_36 rfl ?_
  refine zr_iconst (v := 4) C dL_act_37 (by decide) ?_
  refine zr_icmp_ge (tgt := 45) C dL_act_38 (by decide) hR (fun hR => ?_) (fun hR => ?_)
  · refine zr_iconst (v := 0) C dL_act_45 (by decide) ?_
    exact zr_sub (lv9 := [some (.ref (xg_ad G 350)), some (.ref (yd 0)), some (.int a2), some (.int a3), none, none, none, some (.int a7), none, none, none, none, none]) (And.intro rfl (And.intro rfl (And.intro rfl (And.intro rfl (And.intro rfl trivial))))) (mbL_act_b46 C hr hl htab  yd _ _ _ (by omega) (by omega) hR)
  · refine zr_iconst (v := 1) C dL_act_41 (by decide) ?_
    refine zr_goto (tgt := 46) C dL_act_42 (by decide) ?_
    exact zr_sub (lv9 := [some (.ref (xg_ad G 350)), some (.ref (yd 0)), some (.int a2), some (.int a3), none, none, none, some (.int a7), none, none, none, none, none]) (And.intro rfl (And.intro rfl (And.intro rfl (And.intro rfl (And.intro rfl trivial))))) (mbL_act_b46 C hr hl htab  yd _ _ _ (by omega) (by omega) hR)
set_option maxHeartbeats 4000000 in
set_option maxRecDepth 100000 in
theorem mbL_act_b125 {p : Program} {l : Launch} {e : Env} {s : State} {m : MethodId} {args : Array Value} {below : List Frame} {meth : Method} {c : Code} {G : xw_G} (C : zj_C p s m args meth c G RL cL_act 13) (hr : meth.sig.returnType = (some .boolean)) (hl : l.stackTraces = false) (htab : c.exceptionTable.toList = tableOf [(27, 90, 513, 73), (91, 144, 513, 73), (145, 392, 513, 73), (393, 463, 513, 73), (464, 512, 513, 73), (27, 90, 526, 75), (91, 144, 526, 75), (145, 392, 526, 75), (393, 463, 526, 75), (464, 512, 526, 75)]) {yS : Nat → Nat} {q : xw_M × yz_Y × Int32} {a4 : Int32} {a6 : Int32} {a7 : Int32}  {cells slots : Nat} (yd : Nat → Nat) (h : xw_M) (y : yz_Y)  (hc_x : cells + (1) ≤ 2806) (hs_x : slots + (6) ≤ 36478) (hR : mL_act_b125  a4 a6 a7 h y  = some q) : zj_X p l e { frames := 8, cells := 2806, slots := 36478, locals := 161 } s m args below meth c G 13 cells slots (MQ below (zc_Q G (zPo G (zCh 1 139) yS q.1 q.2.1 (fun _ => some (.int q.2.2)))) args s 2806 36478 (xg_B G)) (yz_W G (zCh 1 139) yS yd h y) [some (.ref (xg_ad G 350)), none, none, none, some (.int a4), none, some (.int a6), some (.int a7), none, none, none, none, none] 125 [] := by
  unfold mL_act_b125 at hR
  refine zr_aload_n C dL_act_125 rfl ?_
  refine zr_callX C (st := []) (t1 := 513) (t2 := 526) [] htab cv_RL_37 (fun _ zz zq => mcX5_addFiber l G kd_350 zz zq) (fun _ zz zq => mtX5_addFiber l G hl kd_350 zz zq) hx_L_act_126_1 hx_L_act_126_2 rfl ⟨Nat.le_of_ble_eq_true rfl, Nat.le_of_ble_eq_true rfl⟩ (Nat.le_of_ble_eq_true rfl) ⟨by show _ ≤ 2806; omega, by show _ ≤ 36478; omega⟩ rfl dL_act_126 hR (fun r11 hr11 hR => ?_) (fun r11 hr11 hR q9 => ?_) (fun r11 hr11 hR q9 => ?_)
  · refine zr_iload C dL_act_129 rfl ?_
    refine zr_icmp_ne (tgt := 143) C dL_act_131 (by decide) hR (fun hR => ?_) (fun hR => ?_)
    · refine zr_iconst (v := 0) C dL_act_143 (by decide) ?_
      exact zq_zh C hr (Or.inl rfl) (by omega) (by omega) dL_act_144 hR
    · refine zr_iload C dL_act_134 rfl ?_
      refine zr_if_eq (tgt := 143) C dL_act_136 (by decide) hR (fun hR => ?_) (fun hR => ?_)
      · refine zr_iconst (v := 0) C dL_act_143 (by decide) ?_
        exact zq_zh C hr (Or.inl rfl) (by omega) (by omega) dL_act_144 hR
      · refine zr_iconst (v := 1) C dL_act_139 (by decide) ?_
        refine zr_goto (tgt := 144) C dL_act_140 (by decide) ?_
        exact zq_zh C hr (Or.inr rfl) (by omega) (by omega) dL_act_144 hR
  · refine zr_astore C dL_act_513 rfl (by decide) ?_
    refine zr_iload C dL_act_515 rfl ?_
    refine zr_if_ne (tgt := 524) C dL_act_517 (by decide) hR (fun hR => ?_) (fun hR => ?_)
    · refine zr_iconst (v := 0) C dL_act_524 (by decide) ?_
      exact zq_zh C hr (Or.inl rfl) (by omega) (by omega) dL_act_525 hR
    · refine zr_iconst (v := 1) C dL_act_520 (by decide) ?_
      refine zr_goto (tgt := 525) C dL_act_521 (by decide) ?_
      exact zq_zh C hr (Or.inr rfl) (by omega) (by omega) dL_act_525 hR
  · refine zr_astore C dL_act_526 rfl (by decide) ?_
    refine zr_iload C dL_act_528 rfl ?_
    refine zr_if_eq (tgt := 542) C dL_act_530 (by decide) hR (fun hR => ?_) (fun hR => ?_)
    · refine zr_iconst (v := 0) C dL_act_542 (by decide) ?_
      exact zq_zh C hr (Or.inl rfl) (by omega) (by omega) dL_act_543 hR
    · refine zr_iload C dL_act_533 rfl ?_
      refine zr_if_ne (tgt := 542) C dL_act_535 (by decide) hR (fun hR => ?_) (fun hR => ?_)
      · refine zr_iconst (v := 0) C dL_act_542 (by decide) ?_
        exact zq_zh C hr (Or.inl rfl) (by omega) (by omega) dL_act_543 hR
      · refine zr_iconst (v := 1) C dL_act_538 (by decide) ?_
        refine zr_goto (tgt := 543) C dL_act_539 (by decide) ?_
        exact zq_zh C hr (Or.inr rfl) (by omega) (by omega) dL_act_543 hR
set_option maxHeartbeats 4000000 in
set_option maxRecDepth 100000 in
theorem mbL_act_b114 {p : Program} {l : Launch} {e : Env} {s : State} {m : MethodId} {args : Array Value} {below : List Frame} {meth : Method} {c : Code} {G : xw_G} (C : zj_C p s m args meth c G RL cL_act 13) (hr : meth.sig.returnType = (some .boolean)) (hl : l.stackTraces = false) (htab : c.exceptionTable.toList = tableOf [(27, 90, 513, 73), (91, 144, 513, 73), (145, 392, 513, 73), (393, 463, 513, 73), (464, 512, 513, 73), (27, 90, 526, 75), (91, 144, 526, 75), (145, 392, 526, 75), (393, 463, 526, 75), (464, 512, 526, 75)]) {yS : Nat → Nat} {q : xw_M × yz_Y × Int32} {a4 : Int32} {a7 : Int32}  {cells slots : Nat} (yd : Nat → Nat) (h : xw_M) (y : yz_Y) (as0 : Int32) (hc_x : cells + (5) ≤ 2806) (hs_x : slots + (23) ≤ 36478) (hR : mL_act_b114  a4 a7 h y as0 = some q) : zj_X p l e { frames := 8, cells := 2806, slots := 36478, locals := 161 } s m args below meth c G 13 cells slots (MQ below (zc_Q G (zPo G (zCh 1 139) yS q.1 q.2.1 (fun _ => some (.int q.2.2)))) args s 2806 36478 (xg_B G)) (yz_W G (zCh 1 139) yS yd h y) [some (.ref (xg_ad G 350)), some (.ref (yd 0)), none, none, some (.int a4), none, none, some (.int a7), none, none, none, none, none] 114 [.int as0] := by
  unfold mL_act_b114 at hR
  refine zr_istore C dL_act_114 rfl (by decide) ?_
  refine zr_iload C dL_act_116 rfl ?_
  refine zr_if_eq (tgt := 125) C dL_act_118 (by decide) hR (fun hR => ?_) (fun hR => ?_)
  · exact zr_sub (lv9 := [some (.ref (xg_ad G 350)), none, none, none, some (.int a4), none, some (.int as0), some (.int a7), none, none, none, none, none]) (And.intro rfl (And.intro rfl (And.intro rfl (And.intro rfl trivial)))) (mbL_act_b125 C hr hl htab  yd _ _ (by omega) (by omega) hR)
  · refine zr_aload_n C dL_act_121 rfl ?_
    refine zr_callVv C (st := []) [] cv_RL_34 (fun k z => ⟨by have z1 := z.1; omega, by have z2 := z.2; omega⟩) (fun _ zz => zcX7_addFiber l G zz) rfl ⟨Nat.le_of_ble_eq_true rfl, Nat.le_of_ble_eq_true rfl⟩ (Nat.le_of_ble_eq_true rfl) ⟨by show _ ≤ 2806; omega, by show _ ≤ 36478; omega⟩ rfl dL_act_122 hR (fun r12 hr12 hR yd13 hy14 => ?_)
    exact zr_sub (lv9 := [some (.ref (xg_ad G 350)), none, none, none, some (.int a4), none, some (.int as0), some (.int a7), none, none, none, none, none]) (And.intro rfl (And.intro rfl (And.intro rfl (And.intro rfl trivial)))) (mbL_act_b125 C hr hl htab  yd13 _ _ (by omega) (by omega) hR)
set_option maxHeartbeats 4000000 in
set_option maxRecDepth 100000 in
theorem mbL_act_b102 {p : Program} {l : Launch} {e : Env} {s : State} {m : MethodId} {args : Array Value} {below : List Frame} {meth : Method} {c : Code} {G : xw_G} (C : zj_C p s m args meth c G RL cL_act 13) (hr : meth.sig.returnType = (some .boolean)) (hl : l.stackTraces = false) (htab : c.exceptionTable.toList = tableOf [(27, 90, 513, 73), (91, 144, 513, 73), (145, 392, 513, 73), (393, 463, 513, 73), (464, 512, 513, 73), (27, 90, 526, 75), (91, 144, 526, 75), (145, 392, 526, 75), (393, 463, 526, 75), (464, 512, 526, 75)]) {yS : Nat → Nat} {q : xw_M × yz_Y × Int32} {a4 : Int32} {a7 : Int32}  {cells slots : Nat} (yd : Nat → Nat) (h : xw_M) (y : yz_Y)  (hc_x : cells + (5) ≤ 2806) (hs_x : slots + (23) ≤ 36478) (hR : mL_act_b102  a4 a7 h y  = some q) : zj_X p l e { frames := 8, cells := 2806, slots := 36478, locals := 161 } s m args below meth c G 13 cells slots (MQ below (zc_Q G (zPo G (zCh 1 139) yS q.1 q.2.1 (fun _ => some (.int q.2.2)))) args s 2806 36478 (xg_B G)) (yz_W G (zCh 1 139) yS yd h y) [some (.ref (xg_ad G 350)), some (.ref (yd 0)), none, none, some (.int a4), none, none, some (.int a7), none, none, none, none, none] 102 [] := by
  unfold mL_act_b102 at hR
  refine zr_iload C dL_act_102 rfl ?_
  refine zr_bipush (v := 8) C dL_act_104 (by decide) ?_
  refine zr_icmp_ge (tgt := 113) C dL_act_106 (by decide) hR (fun hR => ?_) (fun hR => ?_)
  · refine zr_iconst (v := 0) C dL_act_113 (by decide) ?_
    exact zr_sub (lv9 := [some (.ref (xg_ad G 350)), some (.ref (yd 0)), none, none, some (.int a4), none, none, some (.int a7), none, none, none, none, none]) (And.intro rfl (And.intro rfl (And.intro rfl (And.intro rfl trivial)))) (mbL_act_b114 C hr hl htab  yd _ _ _ (by omega) (by omega) hR)
  · refine zr_iconst (v := 1) C dL_act_109 (by decide) ?_
    refine zr_goto (tgt := 114) C dL_act_110 (by decide) ?_
    exact zr_sub (lv9 := [some (.ref (xg_ad G 350)), some (.ref (yd 0)), none, none, some (.int a4), none, none, some (.int a7), none, none, none, none, none]) (And.intro rfl (And.intro rfl (And.intro rfl (And.intro rfl trivial)))) (mbL_act_b114 C hr hl htab  yd _ _ _ (by omega) (by omega) hR)
set_option maxHeartbeats 4000000 in
set_option maxRecDepth 100000 in
theorem mbL_act_b486 {p : Program} {l : Launch} {e : Env} {s : State} {m : MethodId} {args : Array Value} {below : List Frame} {meth : Method} {c : Code} {G : xw_G} (C : zj_C p s m args meth c G RL cL_act 13) (hr : meth.sig.returnType = (some .boolean)) (hl : l.stackTraces = false) (htab : c.exceptionTable.toList = tableOf [(27, 90, 513, 73), (91, 144, 513, 73), (145, 392, 513, 73), (393, 463, 513, 73), (464, 512, 513, 73), (27, 90, 526, 75), (91, 144, 526, 75), (145, 392, 526, 75), (393, 463, 526, 75), (464, 512, 526, 75)]) {yS : Nat → Nat} {q : xw_M × yz_Y × Int32} {a6 : Int32} {a7 : Int32}  {cells slots : Nat} (yd : Nat → Nat) (h : xw_M) (y : yz_Y) (as0 : Int32) (as1 : Int32) (as2 : Int32) (hc_x : cells + (2806) ≤ 2806) (hs_x : slots + (36478) ≤ 36478) (hR : mL_act_b486  a6 a7 h y as0 as1 as2 = some q) : zj_X p l e { frames := 8, cells := 2806, slots := 36478, locals := 161 } s m args below meth c G 13 cells slots (MQ below (zc_Q G (zPo G (zCh 1 139) yS q.1 q.2.1 (fun _ => some (.int q.2.2)))) args s 2806 36478 (xg_B G)) (yz_W G (zCh 1 139) yS yd h y) [some (.ref (xg_ad G 350)), some (.ref (yd 0)), none, none, none, none, some (.int a6), some (.int a7), none, none, none, none, none] 486 [.int as0, .int as1, .int as2] := by
  unfold mL_act_b486 at hR
  refine zr_callSi C (st := [.int as2]) [.int as1, .int as0] cs_RL_19 (fun k z => ⟨by have z1 := z.1; omega, by have z2 := z.2; omega⟩) (fun _ zz => zcL_below l G zz) rfl ⟨Nat.le_of_ble_eq_true rfl, Nat.le_of_ble_eq_true rfl⟩ (Nat.le_of_ble_eq_true rfl) ⟨by show _ ≤ 2806; omega, by show _ ≤ 36478; omega⟩ rfl dL_act_486 hR (fun r18 hr18 hR yd19 hy20 => ?_)
  rw [← hy20 0 (fun z => by have z1 := z.1; have z2 := z.2; omega)]
  refine zr_iadd C dL_act_489 ?_
  refine zr_istore C dL_act_490 rfl (by decide) ?_
  refine zr_aload_n C dL_act_492 rfl ?_
  refine zr_iload C dL_act_493 rfl ?_
  refine zr_callX C (st := []) (t1 := 513) (t2 := 526) [.int (as2 + r18.2)] htab cv_RL_67 (fun _ zz zq => mcX5_run l G kd_350 zz zq) (fun _ zz zq => mtX5_run l G hl kd_350 zz zq) hx_L_act_495_1 hx_L_act_495_2 rfl ⟨Nat.le_of_ble_eq_true rfl, Nat.le_of_ble_eq_true rfl⟩ (Nat.le_of_ble_eq_true rfl) ⟨by show _ ≤ 2806; omega, by show _ ≤ 36478; omega⟩ rfl dL_act_495 hR (fun r21 hr21 hR => ?_) (fun r21 hr21 hR q9 => ?_) (fun r21 hr21 hR q9 => ?_)
  · refine zr_aload_n C dL_act_498 rfl ?_
    refine zr_iload C dL_act_499 rfl ?_
    refine zr_callVi C (st := [.int r21.2.1]) [.int (as2 + r18.2)] cv_RL_70 (fun k z => ⟨by have z1 := z.1; omega, by have z2 := z.2; omega⟩) (fun _ zz => zcX7_pass_ l G zz) rfl ⟨Nat.le_of_ble_eq_true rfl, Nat.le_of_ble_eq_true rfl⟩ (Nat.le_of_ble_eq_true rfl) ⟨by show _ ≤ 2806; omega, by show _ ≤ 36478; omega⟩ rfl dL_act_501 hR (fun r22 hr22 hR yd23 hy24 => ?_)
    refine zr_icmp_ne (tgt := 511) C dL_act_504 (by decide) hR (fun hR => ?_) (fun hR => ?_)
    · refine zr_iconst (v := 0) C dL_act_511 (by decide) ?_
      exact zq_zh C hr (Or.inl rfl) (by omega) (by omega) dL_act_512 hR
    · refine zr_iconst (v := 1) C dL_act_507 (by decide) ?_
      refine zr_goto (tgt := 512) C dL_act_508 (by decide) ?_
      exact zq_zh C hr (Or.inr rfl) (by omega) (by omega) dL_act_512 hR
  · refine zr_astore C dL_act_513 rfl (by decide) ?_
    refine zr_iload C dL_act_515 rfl ?_
    refine zr_if_ne (tgt := 524) C dL_act_517 (by decide) hR (fun hR => ?_) (fun hR => ?_)
    · refine zr_iconst (v := 0) C dL_act_524 (by decide) ?_
      exact zq_zh C hr (Or.inl rfl) (by omega) (by omega) dL_act_525 hR
    · refine zr_iconst (v := 1) C dL_act_520 (by decide) ?_
      refine zr_goto (tgt := 525) C dL_act_521 (by decide) ?_
      exact zq_zh C hr (Or.inr rfl) (by omega) (by omega) dL_act_525 hR
  · refine zr_astore C dL_act_526 rfl (by decide) ?_
    refine zr_iload C dL_act_528 rfl ?_
    refine zr_if_eq (tgt := 542) C dL_act_530 (by decide) hR (fun hR => ?_) (fun hR => ?_)
    · refine zr_iconst (v := 0) C dL_act_542 (by decide) ?_
      exact zq_zh C hr (Or.inl rfl) (by omega) (by omega) dL_act_543 hR
    · refine zr_iload C dL_act_533 rfl ?_
      refine zr_if_ne (tgt := 542) C dL_act_535 (by decide) hR (fun hR => ?_) (fun hR => ?_)
      · refine zr_iconst (v := 0) C dL_act_542 (by decide) ?_
        exact zq_zh C hr (Or.inl rfl) (by omega) (by omega) dL_act_543 hR
      · refine zr_iconst (v := 1) C dL_act_538 (by decide) ?_
        refine zr_goto (tgt := 543) C dL_act_539 (by decide) ?_
        exact zq_zh C hr (Or.inr rfl) (by omega) (by omega) dL_act_543 hR
set_option maxHeartbeats 4000000 in
set_option maxRecDepth 100000 in
theorem mbL_act_b360 {p : Program} {l : Launch} {e : Env} {s : State} {m : MethodId} {args : Array Value} {below : List Frame} {meth : Method} {c : Code} {G : xw_G} (C : zj_C p s m args meth c G RL cL_act 13) (hr : meth.sig.returnType = (some .boolean)) (hl : l.stackTraces = false) (htab : c.exceptionTable.toList = tableOf [(27, 90, 513, 73), (91, 144, 513, 73), (145, 392, 513, 73), (393, 463, 513, 73), (464, 512, 513, 73), (27, 90, 526, 75), (91, 144, 526, 75), (145, 392, 526, 75), (393, 463, 526, 75), (464, 512, 526, 75)]) {yS : Nat → Nat} {q : xw_M × yz_Y × Int32} {a6 : Int32} {a7 : Int32} {a8 : Int32} {a9 : Int32} {a10 : Int32} {a11 : Int32} {a12 : Int32}  {cells slots : Nat} (yd : Nat → Nat) (h : xw_M) (y : yz_Y)  (hc_x : cells + (1) ≤ 2806) (hs_x : slots + (6) ≤ 36478) (hR : mL_act_b360  a6 a7 a8 a9 a10 a11 a12 h y  = some q) : zj_X p l e { frames := 8, cells := 2806, slots := 36478, locals := 161 } s m args below meth c G 13 cells slots (MQ below (zc_Q G (zPo G (zCh 1 139) yS q.1 q.2.1 (fun _ => some (.int q.2.2)))) args s 2806 36478 (xg_B G)) (yz_W G (zCh 1 139) yS yd h y) [some (.ref (xg_ad G 350)), none, none, none, none, none, some (.int a6), some (.int a7), some (.int a8), some (.int a9), some (.int a10), some (.int a11), some (.int a12)] 360 [] := by
  unfold mL_act_b360 at hR
  refine zr_aload_n C dL_act_360 rfl ?_
  refine zr_iload C dL_act_361 rfl ?_
  refine zr_iload C dL_act_363 rfl ?_
  refine zr_iload C dL_act_365 rfl ?_
  refine zr_iload C dL_act_367 rfl ?_
  refine zr_callX C (st := []) (t1 := 513) (t2 := 526) [.int a8, .int a9, .int a10, .int a11] htab cv_RL_54 (fun _ zz zq => mcX5_addStep l G kd_350 zz zq) (fun _ zz zq => mtX5_addStep l G hl kd_350 zz zq) hx_L_act_369_1 hx_L_act_369_2 rfl ⟨Nat.le_of_ble_eq_true rfl, Nat.le_of_ble_eq_true rfl⟩ (Nat.le_of_ble_eq_true rfl) ⟨by show _ ≤ 2806; omega, by show _ ≤ 36478; omega⟩ rfl dL_act_369 hR (fun r56 hr56 hR => ?_) (fun r56 hr56 hR q9 => ?_) (fun r56 hr56 hR q9 => ?_)
  · refine zr_iload C dL_act_372 rfl ?_
    refine zr_icmp_ne (tgt := 391) C dL_act_374 (by decide) hR (fun hR => ?_) (fun hR => ?_)
    · refine zr_iconst (v := 0) C dL_act_391 (by decide) ?_
      exact zq_zh C hr (Or.inl rfl) (by omega) (by omega) dL_act_392 hR
    · refine zr_iload C dL_act_377 rfl ?_
      refine zr_if_eq (tgt := 391) C dL_act_379 (by decide) hR (fun hR => ?_) (fun hR => ?_)
      · refine zr_iconst (v := 0) C dL_act_391 (by decide) ?_
        exact zq_zh C hr (Or.inl rfl) (by omega) (by omega) dL_act_392 hR
      · refine zr_iload C dL_act_382 rfl ?_
        refine zr_if_eq (tgt := 391) C dL_act_384 (by decide) hR (fun hR => ?_) (fun hR => ?_)
        · refine zr_iconst (v := 0) C dL_act_391 (by decide) ?_
          exact zq_zh C hr (Or.inl rfl) (by omega) (by omega) dL_act_392 hR
        · refine zr_iconst (v := 1) C dL_act_387 (by decide) ?_
          refine zr_goto (tgt := 392) C dL_act_388 (by decide) ?_
          exact zq_zh C hr (Or.inr rfl) (by omega) (by omega) dL_act_392 hR
  · refine zr_astore C dL_act_513 rfl (by decide) ?_
    refine zr_iload C dL_act_515 rfl ?_
    refine zr_if_ne (tgt := 524) C dL_act_517 (by decide) hR (fun hR => ?_) (fun hR => ?_)
    · refine zr_iconst (v := 0) C dL_act_524 (by decide) ?_
      exact zq_zh C hr (Or.inl rfl) (by omega) (by omega) dL_act_525 hR
    · refine zr_iconst (v := 1) C dL_act_520 (by decide) ?_
      refine zr_goto (tgt := 525) C dL_act_521 (by decide) ?_
      exact zq_zh C hr (Or.inr rfl) (by omega) (by omega) dL_act_525 hR
  · refine zr_astore C dL_act_526 rfl (by decide) ?_
    refine zr_iload C dL_act_528 rfl ?_
    refine zr_if_eq (tgt := 542) C dL_act_530 (by decide) hR (fun hR => ?_) (fun hR => ?_)
    · refine zr_iconst (v := 0) C dL_act_542 (by decide) ?_
      exact zq_zh C hr (Or.inl rfl) (by omega) (by omega) dL_act_543 hR
    · refine zr_iload C dL_act_533 rfl ?_
      refine zr_if_ne (tgt := 542) C dL_act_535 (by decide) hR (fun hR => ?_) (fun hR => ?_)
      · refine zr_iconst (v := 0) C dL_act_542 (by decide) ?_
        exact zq_zh C hr (Or.inl rfl) (by omega) (by omega) dL_act_543 hR
      · refine zr_iconst (v := 1) C dL_act_538 (by decide) ?_
        refine zr_goto (tgt := 543) C dL_act_539 (by decide) ?_
        exact zq_zh C hr (Or.inr rfl) (by omega) (by omega) dL_act_543 hR
set_option maxHeartbeats 4000000 in
set_option maxRecDepth 100000 in
theorem mbL_act_b336 {p : Program} {l : Launch} {e : Env} {s : State} {m : MethodId} {args : Array Value} {below : List Frame} {meth : Method} {c : Code} {G : xw_G} (C : zj_C p s m args meth c G RL cL_act 13) (hr : meth.sig.returnType = (some .boolean)) (hl : l.stackTraces = false) (htab : c.exceptionTable.toList = tableOf [(27, 90, 513, 73), (91, 144, 513, 73), (145, 392, 513, 73), (393, 463, 513, 73), (464, 512, 513, 73), (27, 90, 526, 75), (91, 144, 526, 75), (145, 392, 526, 75), (393, 463, 526, 75), (464, 512, 526, 75)]) {yS : Nat → Nat} {q : xw_M × yz_Y × Int32} {a7 : Int32} {a8 : Int32} {a9 : Int32} {a10 : Int32} {a11 : Int32} {a12 : Int32}  {cells slots : Nat} (yd : Nat → Nat) (h : xw_M) (y : yz_Y) (as0 : Int32) (hc_x : cells + (5) ≤ 2806) (hs_x : slots + (47) ≤ 36478) (hR : mL_act_b336  a7 a8 a9 a10 a11 a12 h y as0 = some q) : zj_X p l e { frames := 8, cells := 2806, slots := 36478, locals := 161 } s m args below meth c G 13 cells slots (MQ below (zc_Q G (zPo G (zCh 1 139) yS q.1 q.2.1 (fun _ => some (.int q.2.2)))) args s 2806 36478 (xg_B G)) (yz_W G (zCh 1 139) yS yd h y) [some (.ref (xg_ad G 350)), some (.ref (yd 0)), none, none, none, none, none, some (.int a7), some (.int a8), some (.int a9), some (.int a10), some (.int a11), some (.int a12)] 336 [.int as0] := by
  unfold mL_act_b336 at hR
  refine zr_istore C dL_act_336 rfl (by decide) ?_
  refine zr_iload C dL_act_338 rfl ?_
  refine zr_if_eq (tgt := 360) C dL_act_340 (by decide) hR (fun hR => ?_) (fun hR => ?_)
  · exact zr_sub (lv9 := [some (.ref (xg_ad G 350)), none, none, none, none, none, some (.int as0), some (.int a7), some (.int a8), some (.int a9), some (.int a10), some (.int a11), some (.int a12)]) (And.intro rfl (And.intro rfl (And.intro rfl (And.intro rfl (And.intro rfl (And.intro rfl (And.intro rfl (And.intro rfl trivial)))))))) (mbL_act_b360 C hr hl htab  yd _ _ (by omega) (by omega) hR)
  · refine zr_iload C dL_act_343 rfl ?_
    refine zr_if_eq (tgt := 360) C dL_act_345 (by decide) hR (fun hR => ?_) (fun hR => ?_)
    · exact zr_sub (lv9 := [some (.ref (xg_ad G 350)), none, none, none, none, none, some (.int as0), some (.int a7), some (.int a8), some (.int a9), some (.int a10), some (.int a11), some (.int a12)]) (And.intro rfl (And.intro rfl (And.intro rfl (And.intro rfl (And.intro rfl (And.intro rfl (And.intro rfl (And.intro rfl trivial)))))))) (mbL_act_b360 C hr hl htab  yd _ _ (by omega) (by omega) hR)
    · refine zr_aload_n C dL_act_348 rfl ?_
      refine zr_iload C dL_act_349 rfl ?_
      refine zr_iload C dL_act_351 rfl ?_
      refine zr_iload C dL_act_353 rfl ?_
      refine zr_iload C dL_act_355 rfl ?_
      refine zr_callVv C (st := []) [.int a8, .int a9, .int a10, .int a11] cv_RL_50 (fun k z => ⟨by have z1 := z.1; omega, by have z2 := z.2; omega⟩) (fun _ zz => zcX7_addStep l G zz) rfl ⟨Nat.le_of_ble_eq_true rfl, Nat.le_of_ble_eq_true rfl⟩ (Nat.le_of_ble_eq_true rfl) ⟨by show _ ≤ 2806; omega, by show _ ≤ 36478; omega⟩ rfl dL_act_357 hR (fun r57 hr57 hR yd58 hy59 => ?_)
      exact zr_sub (lv9 := [some (.ref (xg_ad G 350)), none, none, none, none, none, some (.int as0), some (.int a7), some (.int a8), some (.int a9), some (.int a10), some (.int a11), some (.int a12)]) (And.intro rfl (And.intro rfl (And.intro rfl (And.intro rfl (And.intro rfl (And.intro rfl (And.intro rfl (And.intro rfl trivial)))))))) (mbL_act_b360 C hr hl htab  yd58 _ _ (by omega) (by omega) hR)
set_option maxHeartbeats 4000000 in
set_option maxRecDepth 100000 in
theorem mbL_act_b295 {p : Program} {l : Launch} {e : Env} {s : State} {m : MethodId} {args : Array Value} {below : List Frame} {meth : Method} {c : Code} {G : xw_G} (C : zj_C p s m args meth c G RL cL_act 13) (hr : meth.sig.returnType = (some .boolean)) (hl : l.stackTraces = false) (htab : c.exceptionTable.toList = tableOf [(27, 90, 513, 73), (91, 144, 513, 73), (145, 392, 513, 73), (393, 463, 513, 73), (464, 512, 513, 73), (27, 90, 526, 75), (91, 144, 526, 75), (145, 392, 526, 75), (393, 463, 526, 75), (464, 512, 526, 75)]) {yS : Nat → Nat} {q : xw_M × yz_Y × Int32} {a6 : Int32} {a7 : Int32} {a8 : Int32} {a9 : Int32} {a10 : Int32}  {cells slots : Nat} (yd : Nat → Nat) (h : xw_M) (y : yz_Y) (as0 : Int32) (hc_x : cells + (5) ≤ 2806) (hs_x : slots + (47) ≤ 36478) (hR : mL_act_b295  a6 a7 a8 a9 a10 h y as0 = some q) : zj_X p l e { frames := 8, cells := 2806, slots := 36478, locals := 161 } s m args below meth c G 13 cells slots (MQ below (zc_Q G (zPo G (zCh 1 139) yS q.1 q.2.1 (fun _ => some (.int q.2.2)))) args s 2806 36478 (xg_B G)) (yz_W G (zCh 1 139) yS yd h y) [some (.ref (xg_ad G 350)), some (.ref (yd 0)), none, none, none, none, some (.int a6), some (.int a7), some (.int a8), some (.int a9), some (.int a10), none, none] 295 [.int as0] := by
  unfold mL_act_b295 at hR
  refine zr_istore C dL_act_295 rfl (by decide) ?_
  refine zr_aload_n C dL_act_297 rfl ?_
  refine zr_iload C dL_act_298 rfl ?_
  refine zr_iload C dL_act_300 rfl ?_
  refine zr_iload C dL_act_302 rfl ?_
  refine zr_iload C dL_act_304 rfl ?_
  refine zr_callVi C (st := []) [.int a8, .int a9, .int a10, .int as0] cv_RL_40 (fun k z => ⟨by have z1 := z.1; omega, by have z2 := z.2; omega⟩) (fun _ zz => zcX7_canAdd l G zz) rfl ⟨Nat.le_of_ble_eq_true rfl, Nat.le_of_ble_eq_true rfl⟩ (Nat.le_of_ble_eq_true rfl) ⟨by show _ ≤ 2806; omega, by show _ ≤ 36478; omega⟩ rfl dL_act_306 hR (fun r53 hr53 hR yd54 hy55 => ?_)
  rw [← hy55 0 (fun z => by have z1 := z.1; have z2 := z.2; omega)]
  refine zr_istore C dL_act_309 rfl (by decide) ?_
  refine zr_aload_n C dL_act_311 rfl ?_
  refine zr_getS C fl_RL_15 rfl dL_act_312 ?_
  refine zr_iload C dL_act_315 rfl ?_
  refine zr_aald4 C dL_act_317 hR (fun hR => ?_)
  refine zr_getF C fl_RL_44 rfl dL_act_318 hR (fun hR => ?_)
  refine zr_alen5 C dL_act_321 hR (fun hR => ?_)
  refine zr_istore C dL_act_322 rfl (by decide) ?_
  refine zr_iload C dL_act_324 rfl ?_
  refine zr_bipush (v := 12) C dL_act_326 (by decide) ?_
  refine zr_icmp_ge (tgt := 335) C dL_act_328 (by decide) hR (fun hR => ?_) (fun hR => ?_)
  · refine zr_iconst (v := 0) C dL_act_335 (by decide) ?_
    exact zr_sub (lv9 := [some (.ref (xg_ad G 350)), some (.ref (yd54 0)), none, none, none, none, none, some (.int r53.2), some (.int a8), some (.int a9), some (.int a10), some (.int as0), some (.int (nI (r53.1.2 (20 + (Int32.toNatClampNeg a8)))))]) (And.intro rfl (And.intro rfl (And.intro rfl (And.intro rfl (And.intro rfl (And.intro rfl (And.intro rfl (And.intro rfl trivial)))))))) (mbL_act_b336 C hr hl htab  yd54 _ _ _ (by omega) (by omega) hR)
  · refine zr_iconst (v := 1) C dL_act_331 (by decide) ?_
    refine zr_goto (tgt := 336) C dL_act_332 (by decide) ?_
    exact zr_sub (lv9 := [some (.ref (xg_ad G 350)), some (.ref (yd54 0)), none, none, none, none, none, some (.int r53.2), some (.int a8), some (.int a9), some (.int a10), some (.int as0), some (.int (nI (r53.1.2 (20 + (Int32.toNatClampNeg a8)))))]) (And.intro rfl (And.intro rfl (And.intro rfl (And.intro rfl (And.intro rfl (And.intro rfl (And.intro rfl (And.intro rfl trivial)))))))) (mbL_act_b336 C hr hl htab  yd54 _ _ _ (by omega) (by omega) hR)
set_option maxHeartbeats 4000000 in
set_option maxRecDepth 100000 in
theorem mbL_act_b263 {p : Program} {l : Launch} {e : Env} {s : State} {m : MethodId} {args : Array Value} {below : List Frame} {meth : Method} {c : Code} {G : xw_G} (C : zj_C p s m args meth c G RL cL_act 13) (hr : meth.sig.returnType = (some .boolean)) (hl : l.stackTraces = false) (htab : c.exceptionTable.toList = tableOf [(27, 90, 513, 73), (91, 144, 513, 73), (145, 392, 513, 73), (393, 463, 513, 73), (464, 512, 513, 73), (27, 90, 526, 75), (91, 144, 526, 75), (145, 392, 526, 75), (393, 463, 526, 75), (464, 512, 526, 75)]) {yS : Nat → Nat} {q : xw_M × yz_Y × Int32} {a2 : Int32} {a6 : Int32} {a7 : Int32} {a8 : Int32} {a9 : Int32}  {cells slots : Nat} (yd : Nat → Nat) (h : xw_M) (y : yz_Y) (as0 : Int32) (hc_x : cells + (5) ≤ 2806) (hs_x : slots + (47) ≤ 36478) (hR : mL_act_b263  a2 a6 a7 a8 a9 h y as0 = some q) : zj_X p l e { frames := 8, cells := 2806, slots := 36478, locals := 161 } s m args below meth c G 13 cells slots (MQ below (zc_Q G (zPo G (zCh 1 139) yS q.1 q.2.1 (fun _ => some (.int q.2.2)))) args s 2806 36478 (xg_B G)) (yz_W G (zCh 1 139) yS yd h y) [some (.ref (xg_ad G 350)), some (.ref (yd 0)), some (.int a2), none, none, none, some (.int a6), some (.int a7), some (.int a8), some (.int a9), none, none, none] 263 [.int as0] := by
  unfold mL_act_b263 at hR
  refine zr_istore C dL_act_263 rfl (by decide) ?_
  refine zr_iload C dL_act_265 rfl ?_
  refine zr_iconst (v := 5) C dL_act_267 (by decide) ?_
  refine zr_icmp_ne (tgt := 283) C dL_act_268 (by decide) hR (fun hR => ?_) (fun hR => ?_)
  · refine zr_iload_n C dL_act_283 rfl ?_
    refine zr_iconst (v := 2) C dL_act_284 (by decide) ?_
    refine zr_ishr C dL_act_285 ?_
    refine zr_sipush (v := 200) C dL_act_286 (by decide) ?_
    refine zr_callSi C (st := []) [.int (a2 >>> ((2 : Int32) &&& 31)), .int (200 : Int32)] cs_RL_19 (fun k z => ⟨by have z1 := z.1; omega, by have z2 := z.2; omega⟩) (fun _ zz => zcL_below l G zz) rfl ⟨Nat.le_of_ble_eq_true rfl, Nat.le_of_ble_eq_true rfl⟩ (Nat.le_of_ble_eq_true rfl) ⟨by show _ ≤ 2806; omega, by show _ ≤ 36478; omega⟩ rfl dL_act_289 hR (fun r50 hr50 hR yd51 hy52 => ?_)
    rw [← hy52 0 (fun z => by have z1 := z.1; have z2 := z.2; omega)]
    refine zr_bipush (v := 99) C dL_act_292 (by decide) ?_
    refine zr_isub C dL_act_294 ?_
    exact zr_sub (lv9 := [some (.ref (xg_ad G 350)), some (.ref (yd51 0)), none, none, none, none, some (.int a6), some (.int a7), some (.int a8), some (.int a9), some (.int as0), none, none]) (And.intro rfl (And.intro rfl (And.intro rfl (And.intro rfl (And.intro rfl (And.intro rfl (And.intro rfl trivial))))))) (mbL_act_b295 C hr hl htab  yd51 _ _ _ (by omega) (by omega) hR)
  · refine zr_iconst (v := 1) C dL_act_271 (by decide) ?_
    refine zr_iload_n C dL_act_272 rfl ?_
    refine zr_iconst (v := 4) C dL_act_273 (by decide) ?_
    refine zr_ishr C dL_act_274 ?_
    refine zr_iconst (v := 3) C dL_act_275 (by decide) ?_
    refine zr_callSi C (st := [.int (1 : Int32)]) [.int (a2 >>> ((4 : Int32) &&& 31)), .int (3 : Int32)] cs_RL_19 (fun k z => ⟨by have z1 := z.1; omega, by have z2 := z.2; omega⟩) (fun _ zz => zcL_below l G zz) rfl ⟨Nat.le_of_ble_eq_true rfl, Nat.le_of_ble_eq_true rfl⟩ (Nat.le_of_ble_eq_true rfl) ⟨by show _ ≤ 2806; omega, by show _ ≤ 36478; omega⟩ rfl dL_act_276 hR (fun r60 hr60 hR yd61 hy62 => ?_)
    rw [← hy62 0 (fun z => by have z1 := z.1; have z2 := z.2; omega)]
    refine zr_iadd C dL_act_279 ?_
    refine zr_goto (tgt := 295) C dL_act_280 (by decide) ?_
    exact zr_sub (lv9 := [some (.ref (xg_ad G 350)), some (.ref (yd61 0)), none, none, none, none, some (.int a6), some (.int a7), some (.int a8), some (.int a9), some (.int as0), none, none]) (And.intro rfl (And.intro rfl (And.intro rfl (And.intro rfl (And.intro rfl (And.intro rfl (And.intro rfl trivial))))))) (mbL_act_b295 C hr hl htab  yd61 _ _ _ (by omega) (by omega) hR)
set_option maxHeartbeats 4000000 in
set_option maxRecDepth 100000 in
theorem mbL_act_b260 {p : Program} {l : Launch} {e : Env} {s : State} {m : MethodId} {args : Array Value} {below : List Frame} {meth : Method} {c : Code} {G : xw_G} (C : zj_C p s m args meth c G RL cL_act 13) (hr : meth.sig.returnType = (some .boolean)) (hl : l.stackTraces = false) (htab : c.exceptionTable.toList = tableOf [(27, 90, 513, 73), (91, 144, 513, 73), (145, 392, 513, 73), (393, 463, 513, 73), (464, 512, 513, 73), (27, 90, 526, 75), (91, 144, 526, 75), (145, 392, 526, 75), (393, 463, 526, 75), (464, 512, 526, 75)]) {yS : Nat → Nat} {q : xw_M × yz_Y × Int32} {a2 : Int32} {a6 : Int32} {a7 : Int32} {a8 : Int32} {a9 : Int32}  {cells slots : Nat} (yd : Nat → Nat) (h : xw_M) (y : yz_Y) (as0 : Int32) (as1 : Int32) (hc_x : cells + (5) ≤ 2806) (hs_x : slots + (47) ≤ 36478) (hR : mL_act_b260  a2 a6 a7 a8 a9 h y as0 as1 = some q) : zj_X p l e { frames := 8, cells := 2806, slots := 36478, locals := 161 } s m args below meth c G 13 cells slots (MQ below (zc_Q G (zPo G (zCh 1 139) yS q.1 q.2.1 (fun _ => some (.int q.2.2)))) args s 2806 36478 (xg_B G)) (yz_W G (zCh 1 139) yS yd h y) [some (.ref (xg_ad G 350)), some (.ref (yd 0)), some (.int a2), none, none, none, some (.int a6), some (.int a7), some (.int a8), some (.int a9), none, none, none] 260 [.int as0, .int as1] := by
  unfold mL_act_b260 at hR
  refine zr_callSi C (st := []) [.int as1, .int as0] cs_RL_19 (fun k z => ⟨by have z1 := z.1; omega, by have z2 := z.2; omega⟩) (fun _ zz => zcL_below l G zz) rfl ⟨Nat.le_of_ble_eq_true rfl, Nat.le_of_ble_eq_true rfl⟩ (Nat.le_of_ble_eq_true rfl) ⟨by show _ ≤ 2806; omega, by show _ ≤ 36478; omega⟩ rfl dL_act_260 hR (fun r47 hr47 hR yd48 hy49 => ?_)
  rw [← hy49 0 (fun z => by have z1 := z.1; have z2 := z.2; omega)]
  exact zr_sub (lv9 := [some (.ref (xg_ad G 350)), some (.ref (yd48 0)), some (.int a2), none, none, none, some (.int a6), some (.int a7), some (.int a8), some (.int a9), none, none, none]) (And.intro rfl (And.intro rfl (And.intro rfl (And.intro rfl (And.intro rfl (And.intro rfl (And.intro rfl trivial))))))) (mbL_act_b263 C hr hl htab  yd48 _ _ _ (by omega) (by omega) hR)
set_option maxHeartbeats 4000000 in
set_option maxRecDepth 100000 in
theorem mbL_act_b215 {p : Program} {l : Launch} {e : Env} {s : State} {m : MethodId} {args : Array Value} {below : List Frame} {meth : Method} {c : Code} {G : xw_G} (C : zj_C p s m args meth c G RL cL_act 13) (hr : meth.sig.returnType = (some .boolean)) (hl : l.stackTraces = false) (htab : c.exceptionTable.toList = tableOf [(27, 90, 513, 73), (91, 144, 513, 73), (145, 392, 513, 73), (393, 463, 513, 73), (464, 512, 513, 73), (27, 90, 526, 75), (91, 144, 526, 75), (145, 392, 526, 75), (393, 463, 526, 75), (464, 512, 526, 75)]) {yS : Nat → Nat} {q : xw_M × yz_Y × Int32} {a2 : Int32} {a3 : Int32} {a4 : Int32} {a6 : Int32} {a7 : Int32} {a8 : Int32}  {cells slots : Nat} (yd : Nat → Nat) (h : xw_M) (y : yz_Y) (as0 : Int32) (hc_x : cells + (5) ≤ 2806) (hs_x : slots + (47) ≤ 36478) (hR : mL_act_b215  a2 a3 a4 a6 a7 a8 h y as0 = some q) : zj_X p l e { frames := 8, cells := 2806, slots := 36478, locals := 161 } s m args below meth c G 13 cells slots (MQ below (zc_Q G (zPo G (zCh 1 139) yS q.1 q.2.1 (fun _ => some (.int q.2.2)))) args s 2806 36478 (xg_B G)) (yz_W G (zCh 1 139) yS yd h y) [some (.ref (xg_ad G 350)), some (.ref (yd 0)), some (.int a2), some (.int a3), some (.int a4), none, some (.int a6), some (.int a7), some (.int a8), none, none, none, none] 215 [.int as0] := by
  unfold mL_act_b215 at hR
  refine zr_istore C dL_act_215 rfl (by decide) ?_
  refine zr_iload C dL_act_217 rfl ?_
  refine zr_iconst (v := 2) C dL_act_219 (by decide) ?_
  refine zr_icmp_ne (tgt := 235) C dL_act_220 (by decide) hR (fun hR => ?_) (fun hR => ?_)
  · refine zr_iload_n C dL_act_235 rfl ?_
    refine zr_iconst (v := 5) C dL_act_236 (by decide) ?_
    refine zr_ishr C dL_act_237 ?_
    refine zr_iload C dL_act_238 rfl ?_
    refine zr_iconst (v := 4) C dL_act_240 (by decide) ?_
    refine zr_icmp_ne (tgt := 249) C dL_act_241 (by decide) hR (fun hR => ?_) (fun hR => ?_)
    · refine zr_iload C dL_act_249 rfl ?_
      refine zr_iconst (v := 5) C dL_act_251 (by decide) ?_
      refine zr_icmp_ne (tgt := 259) C dL_act_252 (by decide) hR (fun hR => ?_) (fun hR => ?_)
      · refine zr_iload_n C dL_act_259 rfl ?_
        exact zr_sub (lv9 := [some (.ref (xg_ad G 350)), some (.ref (yd 0)), some (.int a2), none, none, none, some (.int a6), some (.int a7), some (.int a8), some (.int as0), none, none, none]) (And.intro rfl (And.intro rfl (And.intro rfl (And.intro rfl (And.intro rfl (And.intro rfl (And.intro rfl trivial))))))) (mbL_act_b260 C hr hl htab  yd _ _ _ _ (by omega) (by omega) hR)
      · refine zr_iconst (v := 4) C dL_act_255 (by decide) ?_
        refine zr_goto (tgt := 260) C dL_act_256 (by decide) ?_
        exact zr_sub (lv9 := [some (.ref (xg_ad G 350)), some (.ref (yd 0)), some (.int a2), none, none, none, some (.int a6), some (.int a7), some (.int a8), some (.int as0), none, none, none]) (And.intro rfl (And.intro rfl (And.intro rfl (And.intro rfl (And.intro rfl (And.intro rfl (And.intro rfl trivial))))))) (mbL_act_b260 C hr hl htab  yd _ _ _ _ (by omega) (by omega) hR)
    · refine zr_iload C dL_act_244 rfl ?_
      refine zr_goto (tgt := 260) C dL_act_246 (by decide) ?_
      exact zr_sub (lv9 := [some (.ref (xg_ad G 350)), some (.ref (yd 0)), some (.int a2), none, none, none, some (.int a6), some (.int a7), some (.int a8), some (.int as0), none, none, none]) (And.intro rfl (And.intro rfl (And.intro rfl (And.intro rfl (And.intro rfl (And.intro rfl (And.intro rfl trivial))))))) (mbL_act_b260 C hr hl htab  yd _ _ _ _ (by omega) (by omega) hR)
  · refine zr_iconst (v := 1) C dL_act_223 (by decide) ?_
    refine zr_iload_n C dL_act_224 rfl ?_
    refine zr_iconst (v := 3) C dL_act_225 (by decide) ?_
    refine zr_ishr C dL_act_226 ?_
    refine zr_iconst (v := 5) C dL_act_227 (by decide) ?_
    refine zr_callSi C (st := [.int (1 : Int32)]) [.int (a2 >>> ((3 : Int32) &&& 31)), .int (5 : Int32)] cs_RL_19 (fun k z => ⟨by have z1 := z.1; omega, by have z2 := z.2; omega⟩) (fun _ zz => zcL_below l G zz) rfl ⟨Nat.le_of_ble_eq_true rfl, Nat.le_of_ble_eq_true rfl⟩ (Nat.le_of_ble_eq_true rfl) ⟨by show _ ≤ 2806; omega, by show _ ≤ 36478; omega⟩ rfl dL_act_228 hR (fun r63 hr63 hR yd64 hy65 => ?_)
    rw [← hy65 0 (fun z => by have z1 := z.1; have z2 := z.2; omega)]
    refine zr_iadd C dL_act_231 ?_
    refine zr_goto (tgt := 263) C dL_act_232 (by decide) ?_
    exact zr_sub (lv9 := [some (.ref (xg_ad G 350)), some (.ref (yd64 0)), some (.int a2), none, none, none, some (.int a6), some (.int a7), some (.int a8), some (.int as0), none, none, none]) (And.intro rfl (And.intro rfl (And.intro rfl (And.intro rfl (And.intro rfl (And.intro rfl (And.intro rfl trivial))))))) (mbL_act_b263 C hr hl htab  yd64 _ _ _ (by omega) (by omega) hR)
set_option maxHeartbeats 4000000 in
set_option maxRecDepth 100000 in
theorem zcL_act (l : Launch) (G : xw_G) (hl : l.stackTraces = false) {a2 : Int32} {yS : Nat → Nat} {h : xw_M} {y : yz_Y} {q : xw_M × yz_Y × Int32} (hR : mL_act  a2 h y = some q) : zc_GW l G yL_act cL_act 13 (some .boolean) [(27, 90, 513, 73), (91, 144, 513, 73), (145, 392, 513, 73), (393, 463, 513, 73), (464, 512, 513, 73), (27, 90, 526, 75), (91, 144, 526, 75), (145, 392, 526, 75), (393, 463, 526, 75), (464, 512, 526, 75)] 8 161 2806 36478 [.ref (xg_ad G 350), .ref (yS 0), .int a2] (zPr G yS h y) (zPo G (zCh 1 139) yS q.1 q.2.1 (fun _ => some (.int q.2.2))) := by
  refine zc_ofW (by decide +kernel) rfl (Nat.le_of_ble_eq_true rfl) ?_
  intro p e s m args below meth c C hr htab hP
  have C : zj_C p s m args meth c G RL cL_act 13 := C
  obtain ⟨yd, e9⟩ : ∃ yd : Nat → Nat, yd = yS := ⟨_, rfl⟩
  have e0 : yS 0 = yd 0 := by rw [e9]
  refine zr_eqH (Pr2 := yz_W G (zCh 1 139) yS yd h y) (fun H e => by rw [e, e9]; exact ⟨hP.1, hP.2.1, hP.2.2.1, fun _ _ => rfl⟩) ?_
  rw [e0]
  clear e0 e9 hP
  show zj_X p l e { frames := 8, cells := 2806, slots := 36478, locals := 161 } s m args below meth c G 13 0 0 (MQ below (zc_Q G (zPo G (zCh 1 139) yS q.1 q.2.1 (fun _ => some (.int q.2.2)))) args s 2806 36478 (xg_B G)) (yz_W G (zCh 1 139) yS yd h y) [some (.ref (xg_ad G 350)), some (.ref (yd 0)), some (.int a2), none, none, none, none, none, none, none, none, none, none] 0 []
  unfold mL_act at hR
  refine zr_aload_n C dL_act_0 rfl ?_
  refine zr_getS C fl_RL_9 rfl dL_act_1 ?_
  refine zr_alen2 C dL_act_4 hR (fun hR => ?_)
  refine zr_istore_n C dL_act_5 rfl (by decide) ?_
  refine zr_aload_n C dL_act_6 rfl ?_
  refine zr_getS C fl_RL_15 rfl dL_act_7 ?_
  refine zr_alen4 C dL_act_10 ?_
  refine zr_istore C dL_act_11 rfl (by decide) ?_
  refine zr_iload_n C dL_act_13 rfl ?_
  refine zr_bipush (v := 16) C dL_act_14 (by decide) ?_
  refine zr_callSi C (st := []) [.int a2, .int (16 : Int32)] cs_RL_19 (fun k z => ⟨by have z1 := z.1; omega, by have z2 := z.2; omega⟩) (fun _ zz => zcL_below l G zz) rfl ⟨Nat.le_of_ble_eq_true rfl, Nat.le_of_ble_eq_true rfl⟩ (Nat.le_of_ble_eq_true rfl) ⟨by show _ ≤ 2806; omega, by show _ ≤ 36478; omega⟩ rfl dL_act_16 hR (fun r1 hr1 hR yd2 hy3 => ?_)
  rw [← hy3 0 (fun z => by have z1 := z.1; have z2 := z.2; omega)]
  refine zr_istore C dL_act_19 rfl (by decide) ?_
  refine zr_iconst (v := 1) C dL_act_21 (by decide) ?_
  refine zr_istore C dL_act_22 rfl (by decide) ?_
  refine zr_iconst (v := 1) C dL_act_24 (by decide) ?_
  refine zr_istore C dL_act_25 rfl (by decide) ?_
  refine zr_iload_n C dL_act_27 rfl ?_
  refine zr_if_eq (tgt := 36) C dL_act_28 (by decide) hR (fun hR => ?_) (fun hR => ?_)
  · exact zr_sub (lv9 := [some (.ref (xg_ad G 350)), some (.ref (yd2 0)), some (.int a2), some (.int (nI (y.2 1))), none, none, none, some (.int (1 : Int32)), none, none, none, none, none]) (And.intro rfl (And.intro rfl (And.intro rfl (And.intro rfl (And.intro rfl trivial))))) (mbL_act_b36 C hr hl htab  yd2 _ _ (by omega) (by omega) hR)
  · refine zr_iload C dL_act_31 rfl ?_
    refine zr_if_ne (tgt := 91) C dL_act_33 (by decide) hR (fun hR => ?_) (fun hR => ?_)
    · refine zr_iload C dL_act_91 rfl ?_
      refine zr_if_eq (tgt := 102) C dL_act_93 (by decide) hR (fun hR => ?_) (fun hR => ?_)
      · exact zr_sub (lv9 := [some (.ref (xg_ad G 350)), some (.ref (yd2 0)), none, none, some (.int (nI (y.2 3))), none, none, some (.int (1 : Int32)), none, none, none, none, none]) (And.intro rfl (And.intro rfl (And.intro rfl (And.intro rfl trivial)))) (mbL_act_b102 C hr hl htab  yd2 _ _ (by omega) (by omega) hR)
      · refine zr_iload C dL_act_96 rfl ?_
        refine zr_iconst (v := 1) C dL_act_98 (by decide) ?_
        refine zr_icmp_ne (tgt := 145) C dL_act_99 (by decide) hR (fun hR => ?_) (fun hR => ?_)
        · refine zr_iload C dL_act_145 rfl ?_
          refine zr_bipush (v := 9) C dL_act_147 (by decide) ?_
          refine zr_icmp_ge (tgt := 393) C dL_act_149 (by decide) hR (fun hR => ?_) (fun hR => ?_)
          · refine zr_iload C dL_act_393 rfl ?_
            refine zr_bipush (v := 11) C dL_act_395 (by decide) ?_
            refine zr_icmp_ge (tgt := 464) C dL_act_397 (by decide) hR (fun hR => ?_) (fun hR => ?_)
            · refine zr_iconst (v := 1) C dL_act_464 (by decide) ?_
              refine zr_iload_n C dL_act_465 rfl ?_
              refine zr_iconst (v := 4) C dL_act_466 (by decide) ?_
              refine zr_ishr C dL_act_467 ?_
              refine zr_iload_n C dL_act_468 rfl ?_
              refine zr_bipush (v := 8) C dL_act_469 (by decide) ?_
              refine zr_ishr C dL_act_471 ?_
              refine zr_bipush (v := 6) C dL_act_472 (by decide) ?_
              refine zr_callSi C (st := [.int (a2 >>> ((4 : Int32) &&& 31)), .int (1 : Int32)]) [.int (a2 >>> ((8 : Int32) &&& 31)), .int (6 : Int32)] cs_RL_19 (fun k z => ⟨by have z1 := z.1; omega, by have z2 := z.2; omega⟩) (fun _ zz => zcL_below l G zz) rfl ⟨Nat.le_of_ble_eq_true rfl, Nat.le_of_ble_eq_true rfl⟩ (Nat.le_of_ble_eq_true rfl) ⟨by show _ ≤ 2806; omega, by show _ ≤ 36478; omega⟩ rfl dL_act_474 hR (fun r15 hr15 hR yd16 hy17 => ?_)
              rw [← hy17 0 (fun z => by have z1 := z.1; have z2 := z.2; omega)]
              refine zr_if_ne (tgt := 485) C dL_act_477 (by decide) hR (fun hR => ?_) (fun hR => ?_)
              · refine zr_iconst (v := 5) C dL_act_485 (by decide) ?_
                exact zr_sub (lv9 := [some (.ref (xg_ad G 350)), some (.ref (yd16 0)), none, none, none, none, some (.int (1 : Int32)), some (.int (1 : Int32)), none, none, none, none, none]) (And.intro rfl (And.intro rfl (And.intro rfl (And.intro rfl trivial)))) (mbL_act_b486 C hr hl htab  yd16 _ _ _ _ _ (by omega) (by omega) hR)
              · refine zr_bipush (v := 60) C dL_act_480 (by decide) ?_
                refine zr_goto (tgt := 486) C dL_act_482 (by decide) ?_
                exact zr_sub (lv9 := [some (.ref (xg_ad G 350)), some (.ref (yd16 0)), none, none, none, none, some (.int (1 : Int32)), some (.int (1 : Int32)), none, none, none, none, none]) (And.intro rfl (And.intro rfl (And.intro rfl (And.intro rfl trivial)))) (mbL_act_b486 C hr hl htab  yd16 _ _ _ _ _ (by omega) (by omega) hR)
            · refine zr_iload_n C dL_act_400 rfl ?_
              refine zr_iconst (v := 4) C dL_act_401 (by decide) ?_
              refine zr_ishr C dL_act_402 ?_
              refine zr_iload_n C dL_act_403 rfl ?_
              refine zr_callSi C (st := []) [.int (a2 >>> ((4 : Int32) &&& 31)), .int (nI (y.2 1))] cs_RL_19 (fun k z => ⟨by have z1 := z.1; omega, by have z2 := z.2; omega⟩) (fun _ zz => zcL_below l G zz) rfl ⟨Nat.le_of_ble_eq_true rfl, Nat.le_of_ble_eq_true rfl⟩ (Nat.le_of_ble_eq_true rfl) ⟨by show _ ≤ 2806; omega, by show _ ≤ 36478; omega⟩ rfl dL_act_404 hR (fun r25 hr25 hR yd26 hy27 => ?_)
              rw [← hy27 0 (fun z => by have z1 := z.1; have z2 := z.2; omega)]
              refine zr_istore C dL_act_407 rfl (by decide) ?_
              refine zr_iload_n C dL_act_409 rfl ?_
              refine zr_bipush (v := 6) C dL_act_410 (by decide) ?_
              refine zr_ishr C dL_act_412 ?_
              refine zr_sipush (v := 200) C dL_act_413 (by decide) ?_
              refine zr_callSi C (st := []) [.int (a2 >>> ((6 : Int32) &&& 31)), .int (200 : Int32)] cs_RL_19 (fun k z => ⟨by have z1 := z.1; omega, by have z2 := z.2; omega⟩) (fun _ zz => zcL_below l G zz) rfl ⟨Nat.le_of_ble_eq_true rfl, Nat.le_of_ble_eq_true rfl⟩ (Nat.le_of_ble_eq_true rfl) ⟨by show _ ≤ 2806; omega, by show _ ≤ 36478; omega⟩ rfl dL_act_416 hR (fun r28 hr28 hR yd29 hy30 => ?_)
              rw [← hy30 0 (fun z => by have z1 := z.1; have z2 := z.2; omega)]
              refine zr_bipush (v := 99) C dL_act_419 (by decide) ?_
              refine zr_isub C dL_act_421 ?_
              refine zr_istore C dL_act_422 rfl (by decide) ?_
              refine zr_aload_n C dL_act_424 rfl ?_
              refine zr_iload C dL_act_425 rfl ?_
              refine zr_iload C dL_act_427 rfl ?_
              refine zr_callVi C (st := []) [.int r25.2, .int (r28.2 - (99 : Int32))] cv_RL_57 (fun k z => ⟨by have z1 := z.1; omega, by have z2 := z.2; omega⟩) (fun _ zz => zcX7_isSent l G zz) rfl ⟨Nat.le_of_ble_eq_true rfl, Nat.le_of_ble_eq_true rfl⟩ (Nat.le_of_ble_eq_true rfl) ⟨by show _ ≤ 2806; omega, by show _ ≤ 36478; omega⟩ rfl dL_act_429 hR (fun r31 hr31 hR yd32 hy33 => ?_)
              rw [← hy33 0 (fun z => by have z1 := z.1; have z2 := z.2; omega)]
              refine zr_istore C dL_act_432 rfl (by decide) ?_
              refine zr_aload_n C dL_act_434 rfl ?_
              refine zr_iload C dL_act_435 rfl ?_
              refine zr_iload C dL_act_437 rfl ?_
              refine zr_callX C (st := []) (t1 := 513) (t2 := 526) [.int r25.2, .int (r28.2 - (99 : Int32))] htab cv_RL_61 (fun _ zz zq => mcX5_pour l G kd_350 zz zq) (fun _ zz zq => mtX5_pour l G hl kd_350 zz zq) hx_L_act_439_1 hx_L_act_439_2 rfl ⟨Nat.le_of_ble_eq_true rfl, Nat.le_of_ble_eq_true rfl⟩ (Nat.le_of_ble_eq_true rfl) ⟨by show _ ≤ 2806; omega, by show _ ≤ 36478; omega⟩ rfl dL_act_439 hR (fun r34 hr34 hR => ?_) (fun r34 hr34 hR q9 => ?_) (fun r34 hr34 hR q9 => ?_)
              · refine zr_aload_n C dL_act_442 rfl ?_
                refine zr_getS C fl_RL_64 rfl dL_act_443 ?_
                refine zr_iload C dL_act_446 rfl ?_
                refine zr_aald3 C dL_act_448 hR (fun hR => ?_)
                refine zr_alen2 C dL_act_449 hR (fun hR => ?_)
                refine zr_icmp_ne (tgt := 462) C dL_act_450 (by decide) hR (fun hR => ?_) (fun hR => ?_)
                · refine zr_iconst (v := 0) C dL_act_462 (by decide) ?_
                  exact zq_zh C hr (Or.inl rfl) (by omega) (by omega) dL_act_463 hR
                · refine zr_iload C dL_act_453 rfl ?_
                  refine zr_if_eq (tgt := 462) C dL_act_455 (by decide) hR (fun hR => ?_) (fun hR => ?_)
                  · refine zr_iconst (v := 0) C dL_act_462 (by decide) ?_
                    exact zq_zh C hr (Or.inl rfl) (by omega) (by omega) dL_act_463 hR
                  · refine zr_iconst (v := 1) C dL_act_458 (by decide) ?_
                    refine zr_goto (tgt := 463) C dL_act_459 (by decide) ?_
                    exact zq_zh C hr (Or.inr rfl) (by omega) (by omega) dL_act_463 hR
              · refine zr_astore C dL_act_513 rfl (by decide) ?_
                refine zr_iload C dL_act_515 rfl ?_
                refine zr_if_ne (tgt := 524) C dL_act_517 (by decide) hR (fun hR => ?_) (fun hR => ?_)
                · refine zr_iconst (v := 0) C dL_act_524 (by decide) ?_
                  exact zq_zh C hr (Or.inl rfl) (by omega) (by omega) dL_act_525 hR
                · refine zr_iconst (v := 1) C dL_act_520 (by decide) ?_
                  refine zr_goto (tgt := 525) C dL_act_521 (by decide) ?_
                  exact zq_zh C hr (Or.inr rfl) (by omega) (by omega) dL_act_525 hR
              · refine zr_astore C dL_act_526 rfl (by decide) ?_
                refine zr_iload C dL_act_528 rfl ?_
                refine zr_if_eq (tgt := 542) C dL_act_530 (by decide) hR (fun hR => ?_) (fun hR => ?_)
                · refine zr_iconst (v := 0) C dL_act_542 (by decide) ?_
                  exact zq_zh C hr (Or.inl rfl) (by omega) (by omega) dL_act_543 hR
                · refine zr_iload C dL_act_533 rfl ?_
                  refine zr_if_ne (tgt := 542) C dL_act_535 (by decide) hR (fun hR => ?_) (fun hR => ?_)
                  · refine zr_iconst (v := 0) C dL_act_542 (by decide) ?_
                    exact zq_zh C hr (Or.inl rfl) (by omega) (by omega) dL_act_543 hR
                  · refine zr_iconst (v := 1) C dL_act_538 (by decide) ?_
                    refine zr_goto (tgt := 543) C dL_act_539 (by decide) ?_
                    exact zq_zh C hr (Or.inr rfl) (by omega) (by omega) dL_act_543 hR
          · refine zr_iload_n C dL_act_152 rfl ?_
            refine zr_iconst (v := 4) C dL_act_153 (by decide) ?_
            refine zr_ishr C dL_act_154 ?_
            refine zr_iload C dL_act_155 rfl ?_
            refine zr_callSi C (st := []) [.int (a2 >>> ((4 : Int32) &&& 31)), .int (nI (y.2 3))] cs_RL_19 (fun k z => ⟨by have z1 := z.1; omega, by have z2 := z.2; omega⟩) (fun _ zz => zcL_below l G zz) rfl ⟨Nat.le_of_ble_eq_true rfl, Nat.le_of_ble_eq_true rfl⟩ (Nat.le_of_ble_eq_true rfl) ⟨by show _ ≤ 2806; omega, by show _ ≤ 36478; omega⟩ rfl dL_act_157 hR (fun r35 hr35 hR yd36 hy37 => ?_)
            rw [← hy37 0 (fun z => by have z1 := z.1; have z2 := z.2; omega)]
            refine zr_istore C dL_act_160 rfl (by decide) ?_
            refine zr_iload_n C dL_act_162 rfl ?_
            refine zr_bipush (v := 7) C dL_act_163 (by decide) ?_
            refine zr_ishr C dL_act_165 ?_
            refine zr_iconst (v := 4) C dL_act_166 (by decide) ?_
            refine zr_callSi C (st := []) [.int (a2 >>> ((7 : Int32) &&& 31)), .int (4 : Int32)] cs_RL_19 (fun k z => ⟨by have z1 := z.1; omega, by have z2 := z.2; omega⟩) (fun _ zz => zcL_below l G zz) rfl ⟨Nat.le_of_ble_eq_true rfl, Nat.le_of_ble_eq_true rfl⟩ (Nat.le_of_ble_eq_true rfl) ⟨by show _ ≤ 2806; omega, by show _ ≤ 36478; omega⟩ rfl dL_act_167 hR (fun r38 hr38 hR yd39 hy40 => ?_)
            rw [← hy40 0 (fun z => by have z1 := z.1; have z2 := z.2; omega)]
            refine zr_if_ne (tgt := 184) C dL_act_170 (by decide) hR (fun hR => ?_) (fun hR => ?_)
            · refine zr_iload_n C dL_act_184 rfl ?_
              refine zr_bipush (v := 6) C dL_act_185 (by decide) ?_
              refine zr_ishr C dL_act_187 ?_
              refine zr_iconst (v := 2) C dL_act_188 (by decide) ?_
              refine zr_callSi C (st := []) [.int (a2 >>> ((6 : Int32) &&& 31)), .int (2 : Int32)] cs_RL_19 (fun k z => ⟨by have z1 := z.1; omega, by have z2 := z.2; omega⟩) (fun _ zz => zcL_below l G zz) rfl ⟨Nat.le_of_ble_eq_true rfl, Nat.le_of_ble_eq_true rfl⟩ (Nat.le_of_ble_eq_true rfl) ⟨by show _ ≤ 2806; omega, by show _ ≤ 36478; omega⟩ rfl dL_act_189 hR (fun r41 hr41 hR yd42 hy43 => ?_)
              rw [← hy43 0 (fun z => by have z1 := z.1; have z2 := z.2; omega)]
              refine zr_if_ne (tgt := 206) C dL_act_192 (by decide) hR (fun hR => ?_) (fun hR => ?_)
              · refine zr_iload_n C dL_act_206 rfl ?_
                refine zr_bipush (v := 8) C dL_act_207 (by decide) ?_
                refine zr_ishr C dL_act_209 ?_
                refine zr_bipush (v := 7) C dL_act_210 (by decide) ?_
                refine zr_callSi C (st := []) [.int (a2 >>> ((8 : Int32) &&& 31)), .int (7 : Int32)] cs_RL_19 (fun k z => ⟨by have z1 := z.1; omega, by have z2 := z.2; omega⟩) (fun _ zz => zcL_below l G zz) rfl ⟨Nat.le_of_ble_eq_true rfl, Nat.le_of_ble_eq_true rfl⟩ (Nat.le_of_ble_eq_true rfl) ⟨by show _ ≤ 2806; omega, by show _ ≤ 36478; omega⟩ rfl dL_act_212 hR (fun r44 hr44 hR yd45 hy46 => ?_)
                rw [← hy46 0 (fun z => by have z1 := z.1; have z2 := z.2; omega)]
                exact zr_sub (lv9 := [some (.ref (xg_ad G 350)), some (.ref (yd45 0)), some (.int a2), some (.int (nI (y.2 1))), some (.int (nI (y.2 3))), none, some (.int (1 : Int32)), some (.int (1 : Int32)), some (.int r35.2), none, none, none, none]) (And.intro rfl (And.intro rfl (And.intro rfl (And.intro rfl (And.intro rfl (And.intro rfl (And.intro rfl (And.intro rfl trivial)))))))) (mbL_act_b215 C hr hl htab  yd45 _ _ _ (by omega) (by omega) hR)
              · refine zr_iload_n C dL_act_195 rfl ?_
                refine zr_bipush (v := 9) C dL_act_196 (by decide) ?_
                refine zr_ishr C dL_act_198 ?_
                refine zr_iconst (v := 2) C dL_act_199 (by decide) ?_
                refine zr_callSi C (st := []) [.int (a2 >>> ((9 : Int32) &&& 31)), .int (2 : Int32)] cs_RL_19 (fun k z => ⟨by have z1 := z.1; omega, by have z2 := z.2; omega⟩) (fun _ zz => zcL_below l G zz) rfl ⟨Nat.le_of_ble_eq_true rfl, Nat.le_of_ble_eq_true rfl⟩ (Nat.le_of_ble_eq_true rfl) ⟨by show _ ≤ 2806; omega, by show _ ≤ 36478; omega⟩ rfl dL_act_200 hR (fun r66 hr66 hR yd67 hy68 => ?_)
                rw [← hy68 0 (fun z => by have z1 := z.1; have z2 := z.2; omega)]
                refine zr_goto (tgt := 215) C dL_act_203 (by decide) ?_
                exact zr_sub (lv9 := [some (.ref (xg_ad G 350)), some (.ref (yd67 0)), some (.int a2), some (.int (nI (y.2 1))), some (.int (nI (y.2 3))), none, some (.int (1 : Int32)), some (.int (1 : Int32)), some (.int r35.2), none, none, none, none]) (And.intro rfl (And.intro rfl (And.intro rfl (And.intro rfl (And.intro rfl (And.intro rfl (And.intro rfl (And.intro rfl trivial)))))))) (mbL_act_b215 C hr hl htab  yd67 _ _ _ (by omega) (by omega) hR)
            · refine zr_iload_n C dL_act_173 rfl ?_
              refine zr_iconst (v := 5) C dL_act_174 (by decide) ?_
              refine zr_ishr C dL_act_175 ?_
              refine zr_bipush (v := 7) C dL_act_176 (by decide) ?_
              refine zr_callSi C (st := []) [.int (a2 >>> ((5 : Int32) &&& 31)), .int (7 : Int32)] cs_RL_19 (fun k z => ⟨by have z1 := z.1; omega, by have z2 := z.2; omega⟩) (fun _ zz => zcL_below l G zz) rfl ⟨Nat.le_of_ble_eq_true rfl, Nat.le_of_ble_eq_true rfl⟩ (Nat.le_of_ble_eq_true rfl) ⟨by show _ ≤ 2806; omega, by show _ ≤ 36478; omega⟩ rfl dL_act_178 hR (fun r69 hr69 hR yd70 hy71 => ?_)
              rw [← hy71 0 (fun z => by have z1 := z.1; have z2 := z.2; omega)]
              refine zr_goto (tgt := 215) C dL_act_181 (by decide) ?_
              exact zr_sub (lv9 := [some (.ref (xg_ad G 350)), some (.ref (yd70 0)), some (.int a2), some (.int (nI (y.2 1))), some (.int (nI (y.2 3))), none, some (.int (1 : Int32)), some (.int (1 : Int32)), some (.int r35.2), none, none, none, none]) (And.intro rfl (And.intro rfl (And.intro rfl (And.intro rfl (And.intro rfl (And.intro rfl (And.intro rfl (And.intro rfl trivial)))))))) (mbL_act_b215 C hr hl htab  yd70 _ _ _ (by omega) (by omega) hR)
        · exact zr_sub (lv9 := [some (.ref (xg_ad G 350)), some (.ref (yd2 0)), none, none, some (.int (nI (y.2 3))), none, none, some (.int (1 : Int32)), none, none, none, none, none]) (And.intro rfl (And.intro rfl (And.intro rfl (And.intro rfl trivial)))) (mbL_act_b102 C hr hl htab  yd2 _ _ (by omega) (by omega) hR)
    · exact zr_sub (lv9 := [some (.ref (xg_ad G 350)), some (.ref (yd2 0)), some (.int a2), some (.int (nI (y.2 1))), none, none, none, some (.int (1 : Int32)), none, none, none, none, none]) (And.intro rfl (And.intro rfl (And.intro rfl (And.intro rfl (And.intro rfl trivial))))) (mbL_act_b36 C hr hl htab  yd2 _ _ (by omega) (by omega) hR)
end
