section
def mL_build_b109 (L9 : Nat) (xs9 : Nat → Int32) (K25 : xw_M → yz_Y → Int32 → Option (xw_M × yz_Y × Unit)) (a3 : Int32) (a4 : Int32) (h : xw_M) (y : yz_Y) (as0 : Int32) : Option (xw_M × yz_Y × Unit) := (mL_act as0 h y).bind fun r10 => (if r10.2.2 = 0 then none else K25 r10.1 r10.2.1 ((a4 + 1)))
def mL_build_b25 (L9 : Nat) (xs9 : Nat → Int32)  (a3 : Int32) : Nat → xw_M → yz_Y → Int32 → Option (xw_M × yz_Y × Unit)
  | 0, _, _, _ => none
  | n + 1, h, y, a4 => (if a3 ≤ a4 then some (h, y, ()) else if (15 : Int32) = 0 then none else (mL_cell L9 xs9 ((1 : Int32) + (a4 - a4 / (15 : Int32) * (15 : Int32))) y).bind fun r7 => if (15 : Int32) = 0 then none else (if (5 : Int32) ≤ a4 then if (4 : Int32) = 0 then none else (if (3 : Int32) ≤ (a4 - a4 / (4 : Int32) * (4 : Int32)) then mL_build_b109 L9 xs9 (mL_build_b25 L9 xs9  a3 n) (a3) (a4) h r7.1 (((r7.2 >>> (((a4 / (15 : Int32)) * (3 : Int32)) &&& 31)) + ((11 : Int32) * a4))) else (mL_below  ((r7.2 >>> (((a4 / (15 : Int32)) * (3 : Int32)) &&& 31)) + ((11 : Int32) * a4)) (16 : Int32) r7.1).bind fun r13 => mL_build_b109 L9 xs9 (mL_build_b25 L9 xs9  a3 n) (a3) (a4) h r13.1 (((((r7.2 >>> (((a4 / (15 : Int32)) * (3 : Int32)) &&& 31)) + ((11 : Int32) * a4)) - r13.2) + (2 : Int32)))) else (mL_below  ((r7.2 >>> (((a4 / (15 : Int32)) * (3 : Int32)) &&& 31)) + ((11 : Int32) * a4)) (16 : Int32) r7.1).bind fun r16 => if (2 : Int32) = 0 then none else mL_build_b109 L9 xs9 (mL_build_b25 L9 xs9  a3 n) (a3) (a4) h r16.1 (((((r7.2 >>> (((a4 / (15 : Int32)) * (3 : Int32)) &&& 31)) + ((11 : Int32) * a4)) - r16.2) + (a4 - a4 / (2 : Int32) * (2 : Int32))))))
def mL_build (L9 : Nat) (xs9 : Nat → Int32)  (h : xw_M) (y : yz_Y) : Option (xw_M × yz_Y × Unit) := (mL_cell L9 xs9 (0 : Int32) y).bind fun r1 => (mL_below  r1.2 (24 : Int32) r1.1).bind fun r4 => mL_build_b25 L9 xs9  (((12 : Int32) + r4.2)) 36 h r4.1 ((0 : Int32))
set_option maxHeartbeats 4000000 in
set_option maxRecDepth 100000 in
theorem mbL_build_b109 {p : Program} {l : Launch} {e : Env} {s : State} {m : MethodId} {args : Array Value} {below : List Frame} {meth : Method} {c : Code} {G : xw_G} (C : zj_C p s m args meth c G RL cL_build 6) (hr : meth.sig.returnType = (some (.object "WaterFibersLaw$Sim"))) (hl : l.stackTraces = false) {Q : State → Prop} {yS : Nat → Nat} {q : xw_M × yz_Y × Unit} (hE : ∀ {cells slots : Nat} (yd : Nat → Nat) (h : xw_M) (y : yz_Y) , cells + (0) ≤ 101022 → slots + (0) ≤ 1313215 → some (h, y, ()) = some q → zj_X p l e { frames := 9, cells := 101022, slots := 1313215, locals := 193 } s m args below meth c G 6 cells slots Q (yz_W G (fun _ => True) yS yd h y) [none, none, some (.ref (yd 0)), none, none, none] 123 []) {NK25 MK25 : Nat} {K25 : xw_M → yz_Y → Int32 → Option (xw_M × yz_Y × Unit)} {a3 : Int32} {a4 : Int32} (hK25 : ∀ {cells slots : Nat} (yd : Nat → Nat) (h : xw_M) (y : yz_Y) (a4 : Int32), cells + NK25 ≤ 101022 → slots + MK25 ≤ 1313215 → K25 h y a4 = some q → zj_X p l e { frames := 9, cells := 101022, slots := 1313215, locals := 193 } s m args below meth c G 6 cells slots Q (yz_W G (fun _ => True) yS yd h y) [some (.ref (xg_ad G 350)), some (.ref (xg_b G)), some (.ref (yd 0)), some (.int a3), some (.int a4), none] 25 []) {cells slots : Nat} (yd : Nat → Nat) (h : xw_M) (y : yz_Y) (as0 : Int32) (hc_25 : cells + (2806 + NK25) ≤ 101022) (hs_25 : slots + (36478 + MK25) ≤ 1313215) (hR : mL_build_b109 (xg_L G) (xg_xs G) K25 a3 a4 h y as0 = some q) : zj_X p l e { frames := 9, cells := 101022, slots := 1313215, locals := 193 } s m args below meth c G 6 cells slots Q (yz_W G (fun _ => True) yS yd h y) [some (.ref (xg_ad G 350)), some (.ref (xg_b G)), some (.ref (yd 0)), some (.int a3), some (.int a4), none] 109 [.int as0, .ref (yd 0), .ref (xg_ad G 350)] := by
  unfold mL_build_b109 at hR
  refine zr_callA C (st := []) [.ref (xg_ad G 350), .ref (yd 0), .int as0] cw_RL_82 (fun _ _ => trivial) (fun _ zz => zcL_act l G hl zz) rfl ⟨Nat.le_of_ble_eq_true rfl, Nat.le_of_ble_eq_true rfl⟩ (Nat.le_of_ble_eq_true rfl) ⟨by show _ ≤ 101022; omega, by show _ ≤ 1313215; omega⟩ rfl dL_build_109 hR (fun r10 hr10 hR yd11 hy12 => ?_)
  rw [← hy12 0 (fun z => by have z1 := z.1; have z2 := z.2; omega)]
  refine zr_if_ne (tgt := 117) C dL_build_112 (by decide) hR (fun hR => ?_) (fun hR => ?_)
  · refine zr_iinc (v := 1) C dL_build_117 rfl (by decide) rfl (by decide) ?_
    refine zr_goto (tgt := 25) C dL_build_120 (by decide) ?_
    exact zr_sub (lv9 := [some (.ref (xg_ad G 350)), some (.ref (xg_b G)), some (.ref (yd11 0)), some (.int a3), some (.int (a4 + 1)), none]) (And.intro rfl (And.intro rfl (And.intro rfl (And.intro rfl (And.intro rfl trivial))))) (hK25 yd11 _ _ _ (by omega) (by omega) hR)
  · cases hR
set_option maxHeartbeats 4000000 in
set_option maxRecDepth 100000 in
theorem mbL_build_b25 {p : Program} {l : Launch} {e : Env} {s : State} {m : MethodId} {args : Array Value} {below : List Frame} {meth : Method} {c : Code} {G : xw_G} (C : zj_C p s m args meth c G RL cL_build 6) (hr : meth.sig.returnType = (some (.object "WaterFibersLaw$Sim"))) (hl : l.stackTraces = false) {Q : State → Prop} {yS : Nat → Nat} {q : xw_M × yz_Y × Unit} (hE : ∀ {cells slots : Nat} (yd : Nat → Nat) (h : xw_M) (y : yz_Y) , cells + (0) ≤ 101022 → slots + (0) ≤ 1313215 → some (h, y, ()) = some q → zj_X p l e { frames := 9, cells := 101022, slots := 1313215, locals := 193 } s m args below meth c G 6 cells slots Q (yz_W G (fun _ => True) yS yd h y) [none, none, some (.ref (yd 0)), none, none, none] 123 []) {a3 : Int32}  : ∀ (n : Nat) {cells slots : Nat} (yd : Nat → Nat) (h : xw_M) (y : yz_Y) (a4 : Int32), cells + (2806 * n + 0) ≤ 101022 → slots + (36478 * n + 0) ≤ 1313215 → mL_build_b25 (xg_L G) (xg_xs G)  a3 n h y a4 = some q → zj_X p l e { frames := 9, cells := 101022, slots := 1313215, locals := 193 } s m args below meth c G 6 cells slots Q (yz_W G (fun _ => True) yS yd h y) [some (.ref (xg_ad G 350)), some (.ref (xg_b G)), some (.ref (yd 0)), some (.int a3), some (.int a4), none] 25 [] := by
  intro n
  induction n with
  | zero => intro cells slots yd h y a4 hc_x hs_x hR; exact absurd (show (none : Option (xw_M × yz_Y × Unit)) = some q from hR) (fun z => by cases z)
  | succ n ih =>
    intro cells slots yd h y a4 hc_x hs_x hR
    rw [mL_build_b25.eq_2] at hR
    refine zr_iload C dL_build_25 rfl ?_
    refine zr_iload_n C dL_build_27 rfl ?_
    refine zr_icmp_ge (tgt := 123) C dL_build_28 (by decide) hR (fun hR => ?_) (fun hR => ?_)
    · exact zr_sub (lv9 := [none, none, some (.ref (yd 0)), none, none, none]) (And.intro rfl trivial) (hE yd _ _ (by omega) (by omega) hR)
    · refine zr_aload_n C dL_build_31 rfl ?_
      refine zr_iconst (v := 1) C dL_build_32 (by decide) ?_
      refine zr_iload C dL_build_33 rfl ?_
      refine zr_bipush (v := 15) C dL_build_35 (by decide) ?_
      refine zr_irem C dL_build_37 hR (fun hR => ?_)
      refine zr_iadd C dL_build_38 ?_
      refine zr_callSi C (st := []) [.ref (xg_b G), .int ((1 : Int32) + (a4 - a4 / (15 : Int32) * (15 : Int32)))] cs_RL_78 (fun _ _ => trivial) (fun _ zz => zcL_cell l G zz) rfl ⟨Nat.le_of_ble_eq_true rfl, Nat.le_of_ble_eq_true rfl⟩ (Nat.le_of_ble_eq_true rfl) ⟨by show _ ≤ 101022; omega, by show _ ≤ 1313215; omega⟩ rfl dL_build_39 hR (fun r7 hr7 hR yd8 hy9 => ?_)
      rw [← hy9 0 (fun z => by have z1 := z.1; have z2 := z.2; omega)]
      refine zr_iload C dL_build_42 rfl ?_
      refine zr_bipush (v := 15) C dL_build_44 (by decide) ?_
      refine zr_idiv C dL_build_46 hR (fun hR => ?_)
      refine zr_iconst (v := 3) C dL_build_47 (by decide) ?_
      refine zr_imul C dL_build_48 ?_
      refine zr_ishr C dL_build_49 ?_
      refine zr_bipush (v := 11) C dL_build_50 (by decide) ?_
      refine zr_iload C dL_build_52 rfl ?_
      refine zr_imul C dL_build_54 ?_
      refine zr_iadd C dL_build_55 ?_
      refine zr_istore C dL_build_56 rfl (by decide) ?_
      refine zr_aload_n C dL_build_58 rfl ?_
      refine zr_aload_n C dL_build_59 rfl ?_
      refine zr_iload C dL_build_60 rfl ?_
      refine zr_iconst (v := 5) C dL_build_62 (by decide) ?_
      refine zr_icmp_ge (tgt := 84) C dL_build_63 (by decide) hR (fun hR => ?_) (fun hR => ?_)
      · refine zr_iload C dL_build_84 rfl ?_
        refine zr_iconst (v := 4) C dL_build_86 (by decide) ?_
        refine zr_irem C dL_build_87 hR (fun hR => ?_)
        refine zr_iconst (v := 3) C dL_build_88 (by decide) ?_
        refine zr_icmp_ge (tgt := 107) C dL_build_89 (by decide) hR (fun hR => ?_) (fun hR => ?_)
        · refine zr_iload C dL_build_107 rfl ?_
          exact zr_sub (lv9 := [some (.ref (xg_ad G 350)), some (.ref (xg_b G)), some (.ref (yd8 0)), some (.int a3), some (.int a4), none]) (And.intro rfl (And.intro rfl (And.intro rfl (And.intro rfl (And.intro rfl trivial))))) (mbL_build_b109 C hr hl hE (NK25 := (2806 * n + 0)) (MK25 := (36478 * n + 0)) (fun yd h y z4 h1 h2 h3 => ih yd h y z4 (by omega) (by omega) h3) yd8 _ _ _ (by omega) (by omega) hR)
        · refine zr_iload C dL_build_92 rfl ?_
          refine zr_iload C dL_build_94 rfl ?_
          refine zr_bipush (v := 16) C dL_build_96 (by decide) ?_
          refine zr_callSi C (st := [.int ((r7.2 >>> (((a4 / (15 : Int32)) * (3 : Int32)) &&& 31)) + ((11 : Int32) * a4)), .ref (yd8 0), .ref (xg_ad G 350)]) [.int ((r7.2 >>> (((a4 / (15 : Int32)) * (3 : Int32)) &&& 31)) + ((11 : Int32) * a4)), .int (16 : Int32)] cs_RL_19 (fun _ _ => trivial) (fun _ zz => zcL_below l G zz) rfl ⟨Nat.le_of_ble_eq_true rfl, Nat.le_of_ble_eq_true rfl⟩ (Nat.le_of_ble_eq_true rfl) ⟨by show _ ≤ 101022; omega, by show _ ≤ 1313215; omega⟩ rfl dL_build_98 hR (fun r13 hr13 hR yd14 hy15 => ?_)
          rw [← hy15 0 (fun z => by have z1 := z.1; have z2 := z.2; omega)]
          refine zr_isub C dL_build_101 ?_
          refine zr_iconst (v := 2) C dL_build_102 (by decide) ?_
          refine zr_iadd C dL_build_103 ?_
          refine zr_goto (tgt := 109) C dL_build_104 (by decide) ?_
          exact zr_sub (lv9 := [some (.ref (xg_ad G 350)), some (.ref (xg_b G)), some (.ref (yd14 0)), some (.int a3), some (.int a4), none]) (And.intro rfl (And.intro rfl (And.intro rfl (And.intro rfl (And.intro rfl trivial))))) (mbL_build_b109 C hr hl hE (NK25 := (2806 * n + 0)) (MK25 := (36478 * n + 0)) (fun yd h y z4 h1 h2 h3 => ih yd h y z4 (by omega) (by omega) h3) yd14 _ _ _ (by omega) (by omega) hR)
      · refine zr_iload C dL_build_66 rfl ?_
        refine zr_iload C dL_build_68 rfl ?_
        refine zr_bipush (v := 16) C dL_build_70 (by decide) ?_
        refine zr_callSi C (st := [.int ((r7.2 >>> (((a4 / (15 : Int32)) * (3 : Int32)) &&& 31)) + ((11 : Int32) * a4)), .ref (yd8 0), .ref (xg_ad G 350)]) [.int ((r7.2 >>> (((a4 / (15 : Int32)) * (3 : Int32)) &&& 31)) + ((11 : Int32) * a4)), .int (16 : Int32)] cs_RL_19 (fun _ _ => trivial) (fun _ zz => zcL_below l G zz) rfl ⟨Nat.le_of_ble_eq_true rfl, Nat.le_of_ble_eq_true rfl⟩ (Nat.le_of_ble_eq_true rfl) ⟨by show _ ≤ 101022; omega, by show _ ≤ 1313215; omega⟩ rfl dL_build_72 hR (fun r16 hr16 hR yd17 hy18 => ?_)
        rw [← hy18 0 (fun z => by have z1 := z.1; have z2 := z.2; omega)]
        refine zr_isub C dL_build_75 ?_
        refine zr_iload C dL_build_76 rfl ?_
        refine zr_iconst (v := 2) C dL_build_78 (by decide) ?_
        refine zr_irem C dL_build_79 hR (fun hR => ?_)
        refine zr_iadd C dL_build_80 ?_
        refine zr_goto (tgt := 109) C dL_build_81 (by decide) ?_
        exact zr_sub (lv9 := [some (.ref (xg_ad G 350)), some (.ref (xg_b G)), some (.ref (yd17 0)), some (.int a3), some (.int a4), none]) (And.intro rfl (And.intro rfl (And.intro rfl (And.intro rfl (And.intro rfl trivial))))) (mbL_build_b109 C hr hl hE (NK25 := (2806 * n + 0)) (MK25 := (36478 * n + 0)) (fun yd h y z4 h1 h2 h3 => ih yd h y z4 (by omega) (by omega) h3) yd17 _ _ _ (by omega) (by omega) hR)
set_option maxHeartbeats 4000000 in
set_option maxRecDepth 100000 in
theorem mzL_build {p : Program} {l : Launch} {e : Env} {s : State} {m : MethodId} {args : Array Value} {below : List Frame} {meth : Method} {c : Code} {G : xw_G} (C : zj_C p s m args meth c G RL cL_build 6) (hr : meth.sig.returnType = (some (.object "WaterFibersLaw$Sim"))) (hl : l.stackTraces = false) {Q : State → Prop} {yS : Nat → Nat} {q : xw_M × yz_Y × Unit} (hE : ∀ {cells slots : Nat} (yd : Nat → Nat) (h : xw_M) (y : yz_Y) , cells + (0) ≤ 101022 → slots + (0) ≤ 1313215 → some (h, y, ()) = some q → zj_X p l e { frames := 9, cells := 101022, slots := 1313215, locals := 193 } s m args below meth c G 6 cells slots Q (yz_W G (fun _ => True) yS yd h y) [none, none, some (.ref (yd 0)), none, none, none] 123 []) {h : xw_M} {y : yz_Y} {cells slots : Nat} (yd : Nat → Nat) (hc_x : cells + (101016) ≤ 101022) (hs_x : slots + (1313208) ≤ 1313215) (hR : mL_build (xg_L G) (xg_xs G)  h y = some q) : zj_X p l e { frames := 9, cells := 101022, slots := 1313215, locals := 193 } s m args below meth c G 6 cells slots Q (yz_W G (fun _ => True) yS yd h y) [some (.ref (xg_ad G 350)), some (.ref (xg_b G)), some (.ref (yd 0)), none, none, none] 8 [] := by
  unfold mL_build at hR
  refine zr_bipush (v := 12) C dL_build_8 (by decide) ?_
  refine zr_aload_n C dL_build_10 rfl ?_
  refine zr_iconst (v := 0) C dL_build_11 (by decide) ?_
  refine zr_callSi C (st := [.int (12 : Int32)]) [.ref (xg_b G), .int (0 : Int32)] cs_RL_78 (fun _ _ => trivial) (fun _ zz => zcL_cell l G zz) rfl ⟨Nat.le_of_ble_eq_true rfl, Nat.le_of_ble_eq_true rfl⟩ (Nat.le_of_ble_eq_true rfl) ⟨by show _ ≤ 101022; omega, by show _ ≤ 1313215; omega⟩ rfl dL_build_12 hR (fun r1 hr1 hR yd2 hy3 => ?_)
  rw [← hy3 0 (fun z => by have z1 := z.1; have z2 := z.2; omega)]
  refine zr_bipush (v := 24) C dL_build_15 (by decide) ?_
  refine zr_callSi C (st := [.int (12 : Int32)]) [.int r1.2, .int (24 : Int32)] cs_RL_19 (fun _ _ => trivial) (fun _ zz => zcL_below l G zz) rfl ⟨Nat.le_of_ble_eq_true rfl, Nat.le_of_ble_eq_true rfl⟩ (Nat.le_of_ble_eq_true rfl) ⟨by show _ ≤ 101022; omega, by show _ ≤ 1313215; omega⟩ rfl dL_build_17 hR (fun r4 hr4 hR yd5 hy6 => ?_)
  rw [← hy6 0 (fun z => by have z1 := z.1; have z2 := z.2; omega)]
  refine zr_iadd C dL_build_20 ?_
  refine zr_istore_n C dL_build_21 rfl (by decide) ?_
  refine zr_iconst (v := 0) C dL_build_22 (by decide) ?_
  refine zr_istore C dL_build_23 rfl (by decide) ?_
  exact zr_sub (lv9 := [some (.ref (xg_ad G 350)), some (.ref (xg_b G)), some (.ref (yd5 0)), some (.int ((12 : Int32) + r4.2)), some (.int (0 : Int32)), none]) (And.intro rfl (And.intro rfl (And.intro rfl (And.intro rfl (And.intro rfl trivial))))) (mbL_build_b25 C hr hl hE  _ yd5 _ _ _ (by omega) (by omega) hR)
end
section
def mX7_isSame_b326  (a2 : Int32) (h : xw_M) (y : yz_Y) (as0 : Int32) (as1 : Int32) : Option (xw_M × yz_Y × Int32) := (if as1 = as0 then (mX5_isStuck 350 h).bind fun r10 => (mX7_isStuck   y).bind fun r11 => (if r10.2 = r11.2 then some (r10.1, r11.1, a2) else none) else none)
def mX7_isSame_b156 (K108 : xw_M → yz_Y → Int32 → Int32 → Option (xw_M × yz_Y × Int32)) (a2 : Int32) (a3 : Int32) (k4 : Nat) (a5 : Int32) (h : xw_M) (y : yz_Y)  : Option (xw_M × yz_Y × Int32) := if yz_is y (10 + k4) 1 = true then (mX5_stateOf 350 a3 h).bind fun r14 => (if r14.2.2 = 0 then if yz_is y (10 + k4) 1 = true then (if r14.2.1 = (y.1 (10 + k4) 4) then (mX5_placeOf 350 a3 r14.1).bind fun r15 => (if r15.2.2 = 0 then if yz_is y (10 + k4) 1 = true then (if r15.2.1 = (y.1 (10 + k4) 2) then (mX5_sumOf 350 a3 r15.1).bind fun r16 => (if r16.2.2 = 0 then if yz_is y (10 + k4) 1 = true then (if r16.2.1 = (y.1 (10 + k4) 3) then (mX5_stepsDone 350 a3 r16.1).bind fun r17 => (if r17.2.2 = 0 then if yz_is y (10 + k4) 1 = true then (if r17.2.1 = (y.1 (10 + k4) 6) then (mX5_turnsOf 350 a3 r17.1).bind fun r18 => (if r18.2.2 = 0 then if yz_is y (10 + k4) 1 = true then (if r18.2.1 = (y.1 (10 + k4) 7) then (mX5_placeInLine 350 a3 r18.1).bind fun r19 => (if r19.2.2 = 0 then (if r19.2.1 = a5 then K108 r19.1 y ((a2 + (y.1 (10 + k4) 7))) ((a3 + 1)) else none) else none) else none) else none else none) else none) else none else none) else none) else none else none) else none) else none else none) else none) else none else none) else none
def mX7_isSame_b134 (K108 : xw_M → yz_Y → Int32 → Int32 → Option (xw_M × yz_Y × Int32)) (a2 : Int32) (a3 : Int32) (k4 : Nat) : Nat → xw_M → yz_Y → Int32 → Option (xw_M × yz_Y × Int32)
  | 0, _, _, _ => none
  | n + 1, h, y, a5 => (if a5 < 0 then mX7_isSame_b156 (K108) (a2) (a3) (k4) (a5) h y  else if (yz_is y 4 2 && xo_ix a5 (y.2 4)) = true then (if (y.1 4 (Int32.toNatClampNeg a5)) = a3 then mX7_isSame_b156 (K108) (a2) (a3) (k4) (a5) h y  else mX7_isSame_b134 K108 a2 a3 k4 n h y ((a5 + (-1)))) else none)
def mX7_isSame_b108   : Nat → xw_M → yz_Y → Int32 → Int32 → Option (xw_M × yz_Y × Int32)
  | 0, _, _, _, _ => none
  | n + 1, h, y, a2, a3 => (if (nI (y.2 3)) ≤ a3 then (mX5_time 350 h).bind fun r1 => (if r1.2 = (y.1 0 0) then (mX5_channels 350 r1.1).bind fun r2 => if yz_is y 1 2 = true then (if r2.2 = (nI (y.2 1)) then (mX5_fibers 350 r2.1).bind fun r3 => (if r3.2 = (nI (y.2 3)) then (mX5_done 350 r3.1).bind fun r4 => (mX7_done   y).bind fun r5 => (if r4.2 = r5.2 then (mX5_idleTurns 350 r4.1).bind fun r8 => (if r8.2 = (r5.1.1 0 1) then (mX5_next 350 r8.1).bind fun r9 => if yz_is r5.1 4 2 = true then (if (nI (r5.1.2 4)) = 0 then mX7_isSame_b326  (a2) r9.1 r5.1 ((-1 : Int32)) (r9.2) else if (yz_is r5.1 4 2 && xo_ix (0 : Int32) (r5.1.2 4)) = true then mX7_isSame_b326  (a2) r9.1 r5.1 ((r5.1.1 4 (Int32.toNatClampNeg (0 : Int32)))) (r9.2) else none) else none else none) else none) else none) else none) else none else none) else if xo_ix a3 (y.2 3) = true then if yz_is y 4 2 = true then mX7_isSame_b134 (mX7_isSame_b108   n) (a2) (a3) ((Int32.toNatClampNeg a3)) xo_n h y (((nI (y.2 4)) - (1 : Int32))) else none else none)
def mX7_isSame_b61 (K4 : xw_M → yz_Y → Int32 → Option (xw_M × yz_Y × Int32)) (a2 : Int32) (a3 : Int32) : Nat → xw_M → yz_Y → Int32 → Option (xw_M × yz_Y × Int32)
  | 0, _, _, _ => none
  | n + 1, h, y, a4 => if xo_ix a3 (y.2 2) = true then if yz_is y (6 + (Int32.toNatClampNeg a3)) 2 = true then (if (nI (y.2 (6 + (Int32.toNatClampNeg a3)))) ≤ a4 then K4 h y ((a3 + 1)) else (mX5_valueAt 350 a3 a4 h).bind fun r29 => (if r29.2.2 = 0 then if xo_ix a3 (y.2 2) = true then if (yz_is y (6 + (Int32.toNatClampNeg a3)) 2 && xo_ix a4 (y.2 (6 + (Int32.toNatClampNeg a3)))) = true then (if r29.2.1 = (y.1 (6 + (Int32.toNatClampNeg a3)) (Int32.toNatClampNeg a4)) then mX7_isSame_b61 K4 a2 a3 n r29.1 y ((a4 + 1)) else none) else none else none else none)) else none else none
def mX7_isSame_b4  (a2 : Int32) : Nat → xw_M → yz_Y → Int32 → Option (xw_M × yz_Y × Int32)
  | 0, _, _, _ => none
  | n + 1, h, y, a3 => if yz_is y 1 2 = true then (if (nI (y.2 1)) ≤ a3 then mX7_isSame_b108   xo_n h y (a2) ((0 : Int32)) else (mX5_held 350 a3 h).bind fun r20 => (if r20.2.2 = 0 then if xo_ix a3 (y.2 2) = true then if yz_is y (6 + (Int32.toNatClampNeg a3)) 2 = true then (if r20.2.1 = (nI (y.2 (6 + (Int32.toNatClampNeg a3)))) then (mX5_sendersAt 350 a3 r20.1).bind fun r21 => (if r21.2.2 = 0 then (mX7_waitingAt  (1 : Int32) a3 y).bind fun r22 => (if r21.2.1 = r22.2 then (mX5_takersAt 350 a3 r21.1).bind fun r25 => (if r25.2.2 = 0 then (mX7_waitingAt  (2 : Int32) a3 r22.1).bind fun r26 => (if r25.2.1 = r26.2 then mX7_isSame_b61 (mX7_isSame_b4  a2 n) (a2) (a3) xo_n r25.1 r26.1 ((0 : Int32)) else none) else none) else none) else none) else none) else none else none else none)) else none
def mX7_isSame  (h : xw_M) (y : yz_Y) : Option (xw_M × yz_Y × Int32) := mX7_isSame_b4  ((0 : Int32)) xo_n h y ((0 : Int32))
set_option maxHeartbeats 4000000 in
set_option maxRecDepth 100000 in
theorem mbX7_isSame_b326 {p : Program} {l : Launch} {e : Env} {s : State} {m : MethodId} {args : Array Value} {below : List Frame} {meth : Method} {c : Code} {G : xw_G} (C : zj_C p s m args meth c G RX7 cX7_isSame 6) (hr : meth.sig.returnType = (some .boolean)) (hl : l.stackTraces = false) {Q : State → Prop} {yS : Nat → Nat} {q : xw_M × yz_Y × Int32} (hE : ∀ {cells slots : Nat} (yd : Nat → Nat) (h : xw_M) (y : yz_Y) (a2 : Int32) , cells + (0) ≤ 0 → slots + (0) ≤ 0 → some (h, y, a2) = some q → zj_X p l e { frames := 8, cells := 0, slots := 0, locals := 134 } s m args below meth c G 6 cells slots Q (yz_W G (fun _ => True) yS yd h y) [some (.ref (yd 0)), some (.ref (xg_ad G 350)), some (.int a2), none, none, none] 340 []) {a2 : Int32}  {cells slots : Nat} (yd : Nat → Nat) (h : xw_M) (y : yz_Y) (as0 : Int32) (as1 : Int32) (hc_x : cells + (0) ≤ 0) (hs_x : slots + (0) ≤ 0) (hR : mX7_isSame_b326  a2 h y as0 as1 = some q) : zj_X p l e { frames := 8, cells := 0, slots := 0, locals := 134 } s m args below meth c G 6 cells slots Q (yz_W G (fun _ => True) yS yd h y) [some (.ref (yd 0)), some (.ref (xg_ad G 350)), some (.int a2), none, none, none] 326 [.int as0, .int as1] := by
  unfold mX7_isSame_b326 at hR
  refine zr_icmp_ne (tgt := 373) C dX7_isSame_326 (by decide) hR (fun hR => ?_) (fun hR => ?_)
  · cases hR
  · refine zr_aload_n C dX7_isSame_329 rfl ?_
    refine zr_callCi C (st := []) [] cv_RX7_151 (fun _ zz => mcX5_isStuck l G kd_350 zz) rfl ⟨Nat.le_of_ble_eq_true rfl, Nat.le_of_ble_eq_true rfl⟩ (Nat.le_of_ble_eq_true rfl) ⟨by show _ ≤ 0; omega, by show _ ≤ 0; omega⟩ rfl dX7_isSame_330 hR (fun r10 hr10 hR => ?_)
    refine zr_aload_n C dX7_isSame_333 rfl ?_
    refine zr_callVi C (st := [.int r10.2]) [] cv_RX7_154 (fun _ _ => trivial) (fun _ zz => zcX7_isStuck l G zz) rfl ⟨Nat.le_of_ble_eq_true rfl, Nat.le_of_ble_eq_true rfl⟩ (Nat.le_of_ble_eq_true rfl) ⟨by show _ ≤ 0; omega, by show _ ≤ 0; omega⟩ rfl dX7_isSame_334 hR (fun r11 hr11 hR yd12 hy13 => ?_)
    rw [← hy13 0 (fun z => by have z1 := z.1; have z2 := z.2; omega)]
    refine zr_icmp_ne (tgt := 373) C dX7_isSame_337 (by decide) hR (fun hR => ?_) (fun hR => ?_)
    · cases hR
    · exact zr_sub (lv9 := [some (.ref (yd12 0)), some (.ref (xg_ad G 350)), some (.int a2), none, none, none]) (And.intro rfl (And.intro rfl (And.intro rfl trivial))) (hE yd12 _ _ _ (by omega) (by omega) hR)
set_option maxHeartbeats 4000000 in
set_option maxRecDepth 100000 in
theorem mbX7_isSame_b156 {p : Program} {l : Launch} {e : Env} {s : State} {m : MethodId} {args : Array Value} {below : List Frame} {meth : Method} {c : Code} {G : xw_G} (C : zj_C p s m args meth c G RX7 cX7_isSame 6) (hr : meth.sig.returnType = (some .boolean)) (hl : l.stackTraces = false) {Q : State → Prop} {yS : Nat → Nat} {q : xw_M × yz_Y × Int32} (hE : ∀ {cells slots : Nat} (yd : Nat → Nat) (h : xw_M) (y : yz_Y) (a2 : Int32) , cells + (0) ≤ 0 → slots + (0) ≤ 0 → some (h, y, a2) = some q → zj_X p l e { frames := 8, cells := 0, slots := 0, locals := 134 } s m args below meth c G 6 cells slots Q (yz_W G (fun _ => True) yS yd h y) [some (.ref (yd 0)), some (.ref (xg_ad G 350)), some (.int a2), none, none, none] 340 []) {NK108 MK108 : Nat} {K108 : xw_M → yz_Y → Int32 → Int32 → Option (xw_M × yz_Y × Int32)} {a2 : Int32} {a3 : Int32} {k4 : Nat} {a5 : Int32} (hK108 : ∀ {cells slots : Nat} (yd : Nat → Nat) (h : xw_M) (y : yz_Y) (a2 : Int32) (a3 : Int32), cells + NK108 ≤ 0 → slots + MK108 ≤ 0 → K108 h y a2 a3 = some q → zj_X p l e { frames := 8, cells := 0, slots := 0, locals := 134 } s m args below meth c G 6 cells slots Q (yz_W G (fun _ => True) yS yd h y) [some (.ref (yd 0)), some (.ref (xg_ad G 350)), some (.int a2), some (.int a3), none, none] 108 []) {cells slots : Nat} (yd : Nat → Nat) (h : xw_M) (y : yz_Y)  (hc_108 : cells + (0 + NK108) ≤ 0) (hs_108 : slots + (0 + MK108) ≤ 0) (hR : mX7_isSame_b156 K108 a2 a3 k4 a5 h y  = some q) : zj_X p l e { frames := 8, cells := 0, slots := 0, locals := 134 } s m args below meth c G 6 cells slots Q (yz_W G (fun _ => True) yS yd h y) [some (.ref (yd 0)), some (.ref (xg_ad G 350)), some (.int a2), some (.int a3), some (.ref (yd (10 + k4))), some (.int a5)] 156 [] := by
  unfold mX7_isSame_b156 at hR
  refine zr_iload_n C dX7_isSame_156 rfl ?_
  refine zr_aload C dX7_isSame_157 rfl ?_
  refine zr_getF C fl_RX7_64 rfl dX7_isSame_159 hR (fun hR => ?_)
  refine zr_iadd C dX7_isSame_162 ?_
  refine zr_istore_n C dX7_isSame_163 rfl (by decide) ?_
  refine zr_aload_n C dX7_isSame_164 rfl ?_
  refine zr_iload_n C dX7_isSame_165 rfl ?_
  refine zr_callCiR C (st := []) [.int a3] cv_RX7_115 (fun _ zz zq => mcX5_stateOf l G kd_350 zz zq) rfl ⟨Nat.le_of_ble_eq_true rfl, Nat.le_of_ble_eq_true rfl⟩ (Nat.le_of_ble_eq_true rfl) ⟨by show _ ≤ 0; omega, by show _ ≤ 0; omega⟩ rfl dX7_isSame_166 hR (fun r14 hr14 hR => ?_)
  refine zr_aload C dX7_isSame_169 rfl ?_
  refine zr_getF C fl_RX7_55 rfl dX7_isSame_171 hR (fun hR => ?_)
  refine zr_icmp_ne (tgt := 239) C dX7_isSame_174 (by decide) hR (fun hR => ?_) (fun hR => ?_)
  · cases hR
  · refine zr_aload_n C dX7_isSame_177 rfl ?_
    refine zr_iload_n C dX7_isSame_178 rfl ?_
    refine zr_callCiR C (st := []) [.int a3] cv_RX7_118 (fun _ zz zq => mcX5_placeOf l G kd_350 zz zq) rfl ⟨Nat.le_of_ble_eq_true rfl, Nat.le_of_ble_eq_true rfl⟩ (Nat.le_of_ble_eq_true rfl) ⟨by show _ ≤ 0; omega, by show _ ≤ 0; omega⟩ rfl dX7_isSame_179 hR (fun r15 hr15 hR => ?_)
    refine zr_aload C dX7_isSame_182 rfl ?_
    refine zr_getF C fl_RX7_49 rfl dX7_isSame_184 hR (fun hR => ?_)
    refine zr_icmp_ne (tgt := 239) C dX7_isSame_187 (by decide) hR (fun hR => ?_) (fun hR => ?_)
    · cases hR
    · refine zr_aload_n C dX7_isSame_190 rfl ?_
      refine zr_iload_n C dX7_isSame_191 rfl ?_
      refine zr_callCiR C (st := []) [.int a3] cv_RX7_121 (fun _ zz zq => mcX5_sumOf l G kd_350 zz zq) rfl ⟨Nat.le_of_ble_eq_true rfl, Nat.le_of_ble_eq_true rfl⟩ (Nat.le_of_ble_eq_true rfl) ⟨by show _ ≤ 0; omega, by show _ ≤ 0; omega⟩ rfl dX7_isSame_192 hR (fun r16 hr16 hR => ?_)
      refine zr_aload C dX7_isSame_195 rfl ?_
      refine zr_getF C fl_RX7_52 rfl dX7_isSame_197 hR (fun hR => ?_)
      refine zr_icmp_ne (tgt := 239) C dX7_isSame_200 (by decide) hR (fun hR => ?_) (fun hR => ?_)
      · cases hR
      · refine zr_aload_n C dX7_isSame_203 rfl ?_
        refine zr_iload_n C dX7_isSame_204 rfl ?_
        refine zr_callCiR C (st := []) [.int a3] cv_RX7_124 (fun _ zz zq => mcX5_stepsDone l G kd_350 zz zq) rfl ⟨Nat.le_of_ble_eq_true rfl, Nat.le_of_ble_eq_true rfl⟩ (Nat.le_of_ble_eq_true rfl) ⟨by show _ ≤ 0; omega, by show _ ≤ 0; omega⟩ rfl dX7_isSame_205 hR (fun r17 hr17 hR => ?_)
        refine zr_aload C dX7_isSame_208 rfl ?_
        refine zr_getF C fl_RX7_61 rfl dX7_isSame_210 hR (fun hR => ?_)
        refine zr_icmp_ne (tgt := 239) C dX7_isSame_213 (by decide) hR (fun hR => ?_) (fun hR => ?_)
        · cases hR
        · refine zr_aload_n C dX7_isSame_216 rfl ?_
          refine zr_iload_n C dX7_isSame_217 rfl ?_
          refine zr_callCiR C (st := []) [.int a3] cv_RX7_127 (fun _ zz zq => mcX5_turnsOf l G kd_350 zz zq) rfl ⟨Nat.le_of_ble_eq_true rfl, Nat.le_of_ble_eq_true rfl⟩ (Nat.le_of_ble_eq_true rfl) ⟨by show _ ≤ 0; omega, by show _ ≤ 0; omega⟩ rfl dX7_isSame_218 hR (fun r18 hr18 hR => ?_)
          refine zr_aload C dX7_isSame_221 rfl ?_
          refine zr_getF C fl_RX7_64 rfl dX7_isSame_223 hR (fun hR => ?_)
          refine zr_icmp_ne (tgt := 239) C dX7_isSame_226 (by decide) hR (fun hR => ?_) (fun hR => ?_)
          · cases hR
          · refine zr_aload_n C dX7_isSame_229 rfl ?_
            refine zr_iload_n C dX7_isSame_230 rfl ?_
            refine zr_callCiR C (st := []) [.int a3] cv_RX7_130 (fun _ zz zq => mcX5_placeInLine l G kd_350 zz zq) rfl ⟨Nat.le_of_ble_eq_true rfl, Nat.le_of_ble_eq_true rfl⟩ (Nat.le_of_ble_eq_true rfl) ⟨by show _ ≤ 0; omega, by show _ ≤ 0; omega⟩ rfl dX7_isSame_231 hR (fun r19 hr19 hR => ?_)
            refine zr_iload C dX7_isSame_234 rfl ?_
            refine zr_icmp_eq (tgt := 241) C dX7_isSame_236 (by decide) hR (fun hR => ?_) (fun hR => ?_)
            · refine zr_iinc (v := 1) C dX7_isSame_241 rfl (by decide) rfl (by decide) ?_
              refine zr_goto (tgt := 108) C dX7_isSame_244 (by decide) ?_
              exact zr_sub (lv9 := [some (.ref (yd 0)), some (.ref (xg_ad G 350)), some (.int (a2 + (y.1 (10 + k4) 7))), some (.int (a3 + 1)), none, none]) (And.intro rfl (And.intro rfl (And.intro rfl (And.intro rfl trivial)))) (hK108 yd _ _ _ _ (by omega) (by omega) hR)
            · cases hR
set_option maxHeartbeats 4000000 in
set_option maxRecDepth 100000 in
theorem mbX7_isSame_b134 {p : Program} {l : Launch} {e : Env} {s : State} {m : MethodId} {args : Array Value} {below : List Frame} {meth : Method} {c : Code} {G : xw_G} (C : zj_C p s m args meth c G RX7 cX7_isSame 6) (hr : meth.sig.returnType = (some .boolean)) (hl : l.stackTraces = false) {Q : State → Prop} {yS : Nat → Nat} {q : xw_M × yz_Y × Int32} (hE : ∀ {cells slots : Nat} (yd : Nat → Nat) (h : xw_M) (y : yz_Y) (a2 : Int32) , cells + (0) ≤ 0 → slots + (0) ≤ 0 → some (h, y, a2) = some q → zj_X p l e { frames := 8, cells := 0, slots := 0, locals := 134 } s m args below meth c G 6 cells slots Q (yz_W G (fun _ => True) yS yd h y) [some (.ref (yd 0)), some (.ref (xg_ad G 350)), some (.int a2), none, none, none] 340 []) {NK108 MK108 : Nat} {K108 : xw_M → yz_Y → Int32 → Int32 → Option (xw_M × yz_Y × Int32)} {a2 : Int32} {a3 : Int32} {k4 : Nat} (hK108 : ∀ {cells slots : Nat} (yd : Nat → Nat) (h : xw_M) (y : yz_Y) (a2 : Int32) (a3 : Int32), cells + NK108 ≤ 0 → slots + MK108 ≤ 0 → K108 h y a2 a3 = some q → zj_X p l e { frames := 8, cells := 0, slots := 0, locals := 134 } s m args below meth c G 6 cells slots Q (yz_W G (fun _ => True) yS yd h y) [some (.ref (yd 0)), some (.ref (xg_ad G 350)), some (.int a2), some (.int a3), none, none] 108 []) : ∀ (n : Nat) {cells slots : Nat} (yd : Nat → Nat) (h : xw_M) (y : yz_Y) (a5 : Int32), cells + (0 + NK108) ≤ 0 → slots + (0 + MK108) ≤ 0 → mX7_isSame_b134 K108 a2 a3 k4 n h y a5 = some q → zj_X p l e { frames := 8, cells := 0, slots := 0, locals := 134 } s m args below meth c G 6 cells slots Q (yz_W G (fun _ => True) yS yd h y) [some (.ref (yd 0)), some (.ref (xg_ad G 350)), some (.int a2), some (.int a3), some (.ref (yd (10 + k4))), some (.int a5)] 134 [] := by
  intro n
  induction n with
  | zero => intro cells slots yd h y a5 hc_108 hs_108 hR; exact absurd (show (none : Option (xw_M × yz_Y × Int32)) = some q from hR) (fun z => by cases z)
  | succ n ih =>
    intro cells slots yd h y a5 hc_108 hs_108 hR
    rw [mX7_isSame_b134.eq_2] at hR
    refine zr_iload C dX7_isSame_134 rfl ?_
    refine zr_if_lt (tgt := 156) C dX7_isSame_136 (by decide) hR (fun hR => ?_) (fun hR => ?_)
    · exact zr_sub (lv9 := [some (.ref (yd 0)), some (.ref (xg_ad G 350)), some (.int a2), some (.int a3), some (.ref (yd (10 + k4))), some (.int a5)]) (And.intro rfl (And.intro rfl (And.intro rfl (And.intro rfl (And.intro rfl (And.intro rfl trivial)))))) (mbX7_isSame_b156 C hr hl hE (NK108 := NK108) (MK108 := MK108) hK108 yd _ _ (by omega) (by omega) hR)
    · refine zr_aload_n C dX7_isSame_139 rfl ?_
      refine zr_getS C fl_RX7_24 rfl dX7_isSame_140 ?_
      refine zr_iload C dX7_isSame_143 rfl ?_
      refine zr_iald C dX7_isSame_145 hR (fun hR => ?_)
      refine zr_iload_n C dX7_isSame_146 rfl ?_
      refine zr_icmp_eq (tgt := 156) C dX7_isSame_147 (by decide) hR (fun hR => ?_) (fun hR => ?_)
      · exact zr_sub (lv9 := [some (.ref (yd 0)), some (.ref (xg_ad G 350)), some (.int a2), some (.int a3), some (.ref (yd (10 + k4))), some (.int a5)]) (And.intro rfl (And.intro rfl (And.intro rfl (And.intro rfl (And.intro rfl (And.intro rfl trivial)))))) (mbX7_isSame_b156 C hr hl hE (NK108 := NK108) (MK108 := MK108) hK108 yd _ _ (by omega) (by omega) hR)
      · refine zr_iinc (v := (-1)) C dX7_isSame_150 rfl (by decide) rfl (by decide) ?_
        refine zr_goto (tgt := 134) C dX7_isSame_153 (by decide) ?_
        exact zr_sub (lv9 := [some (.ref (yd 0)), some (.ref (xg_ad G 350)), some (.int a2), some (.int a3), some (.ref (yd (10 + k4))), some (.int (a5 + (-1)))]) (And.intro rfl (And.intro rfl (And.intro rfl (And.intro rfl (And.intro rfl (And.intro rfl trivial)))))) (ih yd _ _ _ (by omega) (by omega) hR)
set_option maxHeartbeats 4000000 in
set_option maxRecDepth 100000 in
theorem mbX7_isSame_b108 {p : Program} {l : Launch} {e : Env} {s : State} {m : MethodId} {args : Array Value} {below : List Frame} {meth : Method} {c : Code} {G : xw_G} (C : zj_C p s m args meth c G RX7 cX7_isSame 6) (hr : meth.sig.returnType = (some .boolean)) (hl : l.stackTraces = false) {Q : State → Prop} {yS : Nat → Nat} {q : xw_M × yz_Y × Int32} (hE : ∀ {cells slots : Nat} (yd : Nat → Nat) (h : xw_M) (y : yz_Y) (a2 : Int32) , cells + (0) ≤ 0 → slots + (0) ≤ 0 → some (h, y, a2) = some q → zj_X p l e { frames := 8, cells := 0, slots := 0, locals := 134 } s m args below meth c G 6 cells slots Q (yz_W G (fun _ => True) yS yd h y) [some (.ref (yd 0)), some (.ref (xg_ad G 350)), some (.int a2), none, none, none] 340 [])  : ∀ (n : Nat) {cells slots : Nat} (yd : Nat → Nat) (h : xw_M) (y : yz_Y) (a2 : Int32) (a3 : Int32), cells + (0) ≤ 0 → slots + (0) ≤ 0 → mX7_isSame_b108   n h y a2 a3 = some q → zj_X p l e { frames := 8, cells := 0, slots := 0, locals := 134 } s m args below meth c G 6 cells slots Q (yz_W G (fun _ => True) yS yd h y) [some (.ref (yd 0)), some (.ref (xg_ad G 350)), some (.int a2), some (.int a3), none, none] 108 [] := by
  intro n
  induction n with
  | zero => intro cells slots yd h y a2 a3 hc_x hs_x hR; exact absurd (show (none : Option (xw_M × yz_Y × Int32)) = some q from hR) (fun z => by cases z)
  | succ n ih =>
    intro cells slots yd h y a2 a3 hc_x hs_x hR
    rw [mX7_isSame_b108.eq_2] at hR
    refine zr_iload_n C dX7_isSame_108 rfl ?_
    refine zr_aload_n C dX7_isSame_109 rfl ?_
    refine zr_getS C fl_RX7_20 rfl dX7_isSame_110 ?_
    refine zr_alen4 C dX7_isSame_113 ?_
    refine zr_icmp_ge (tgt := 247) C dX7_isSame_114 (by decide) hR (fun hR => ?_) (fun hR => ?_)
    · refine zr_aload_n C dX7_isSame_247 rfl ?_
      refine zr_callCi C (st := []) [] cv_RX7_133 (fun _ zz => mcX5_time l G kd_350 zz) rfl ⟨Nat.le_of_ble_eq_true rfl, Nat.le_of_ble_eq_true rfl⟩ (Nat.le_of_ble_eq_true rfl) ⟨by show _ ≤ 0; omega, by show _ ≤ 0; omega⟩ rfl dX7_isSame_248 hR (fun r1 hr1 hR => ?_)
      refine zr_aload_n C dX7_isSame_251 rfl ?_
      refine zr_getS C fl_RX7_31 rfl dX7_isSame_252 ?_
      refine zr_icmp_ne (tgt := 373) C dX7_isSame_255 (by decide) hR (fun hR => ?_) (fun hR => ?_)
      · cases hR
      · refine zr_aload_n C dX7_isSame_258 rfl ?_
        refine zr_callCi C (st := []) [] cv_RX7_136 (fun _ zz => mcX5_channels l G kd_350 zz) rfl ⟨Nat.le_of_ble_eq_true rfl, Nat.le_of_ble_eq_true rfl⟩ (Nat.le_of_ble_eq_true rfl) ⟨by show _ ≤ 0; omega, by show _ ≤ 0; omega⟩ rfl dX7_isSame_259 hR (fun r2 hr2 hR => ?_)
        refine zr_aload_n C dX7_isSame_262 rfl ?_
        refine zr_getS C fl_RX7_7 rfl dX7_isSame_263 ?_
        refine zr_alen2 C dX7_isSame_266 hR (fun hR => ?_)
        refine zr_icmp_ne (tgt := 373) C dX7_isSame_267 (by decide) hR (fun hR => ?_) (fun hR => ?_)
        · cases hR
        · refine zr_aload_n C dX7_isSame_270 rfl ?_
          refine zr_callCi C (st := []) [] cv_RX7_139 (fun _ zz => mcX5_fibers l G kd_350 zz) rfl ⟨Nat.le_of_ble_eq_true rfl, Nat.le_of_ble_eq_true rfl⟩ (Nat.le_of_ble_eq_true rfl) ⟨by show _ ≤ 0; omega, by show _ ≤ 0; omega⟩ rfl dX7_isSame_271 hR (fun r3 hr3 hR => ?_)
          refine zr_aload_n C dX7_isSame_274 rfl ?_
          refine zr_getS C fl_RX7_20 rfl dX7_isSame_275 ?_
          refine zr_alen4 C dX7_isSame_278 ?_
          refine zr_icmp_ne (tgt := 373) C dX7_isSame_279 (by decide) hR (fun hR => ?_) (fun hR => ?_)
          · cases hR
          · refine zr_aload_n C dX7_isSame_282 rfl ?_
            refine zr_callCi C (st := []) [] cv_RX7_141 (fun _ zz => mcX5_done l G kd_350 zz) rfl ⟨Nat.le_of_ble_eq_true rfl, Nat.le_of_ble_eq_true rfl⟩ (Nat.le_of_ble_eq_true rfl) ⟨by show _ ≤ 0; omega, by show _ ≤ 0; omega⟩ rfl dX7_isSame_283 hR (fun r4 hr4 hR => ?_)
            refine zr_aload_n C dX7_isSame_286 rfl ?_
            refine zr_callVi C (st := [.int r4.2]) [] cv_RX7_144 (fun _ _ => trivial) (fun _ zz => zcX7_done l G zz) rfl ⟨Nat.le_of_ble_eq_true rfl, Nat.le_of_ble_eq_true rfl⟩ (Nat.le_of_ble_eq_true rfl) ⟨by show _ ≤ 0; omega, by show _ ≤ 0; omega⟩ rfl dX7_isSame_287 hR (fun r5 hr5 hR yd6 hy7 => ?_)
            rw [← hy7 0 (fun z => by have z1 := z.1; have z2 := z.2; omega)]
            refine zr_icmp_ne (tgt := 373) C dX7_isSame_290 (by decide) hR (fun hR => ?_) (fun hR => ?_)
            · cases hR
            · refine zr_aload_n C dX7_isSame_293 rfl ?_
              refine zr_callCi C (st := []) [] cv_RX7_145 (fun _ zz => mcX5_idleTurns l G kd_350 zz) rfl ⟨Nat.le_of_ble_eq_true rfl, Nat.le_of_ble_eq_true rfl⟩ (Nat.le_of_ble_eq_true rfl) ⟨by show _ ≤ 0; omega, by show _ ≤ 0; omega⟩ rfl dX7_isSame_294 hR (fun r8 hr8 hR => ?_)
              refine zr_aload_n C dX7_isSame_297 rfl ?_
              refine zr_getS C fl_RX7_35 rfl dX7_isSame_298 ?_
              refine zr_icmp_ne (tgt := 373) C dX7_isSame_301 (by decide) hR (fun hR => ?_) (fun hR => ?_)
              · cases hR
              · refine zr_aload_n C dX7_isSame_304 rfl ?_
                refine zr_callCi C (st := []) [] cv_RX7_148 (fun _ zz => mcX5_next l G kd_350 zz) rfl ⟨Nat.le_of_ble_eq_true rfl, Nat.le_of_ble_eq_true rfl⟩ (Nat.le_of_ble_eq_true rfl) ⟨by show _ ≤ 0; omega, by show _ ≤ 0; omega⟩ rfl dX7_isSame_305 hR (fun r9 hr9 hR => ?_)
                refine zr_aload_n C dX7_isSame_308 rfl ?_
                refine zr_getS C fl_RX7_24 rfl dX7_isSame_309 ?_
                refine zr_alen2 C dX7_isSame_312 hR (fun hR => ?_)
                refine zr_if_ne (tgt := 320) C dX7_isSame_313 (by decide) hR (fun hR => ?_) (fun hR => ?_)
                · refine zr_aload_n C dX7_isSame_320 rfl ?_
                  refine zr_getS C fl_RX7_24 rfl dX7_isSame_321 ?_
                  refine zr_iconst (v := 0) C dX7_isSame_324 (by decide) ?_
                  refine zr_iald C dX7_isSame_325 hR (fun hR => ?_)
                  exact zr_sub (lv9 := [some (.ref (yd6 0)), some (.ref (xg_ad G 350)), some (.int a2), none, none, none]) (And.intro rfl (And.intro rfl (And.intro rfl trivial))) (mbX7_isSame_b326 C hr hl hE  yd6 _ _ _ _ (by omega) (by omega) hR)
                · refine zr_iconst (v := (-1)) C dX7_isSame_316 (by decide) ?_
                  refine zr_goto (tgt := 326) C dX7_isSame_317 (by decide) ?_
                  exact zr_sub (lv9 := [some (.ref (yd6 0)), some (.ref (xg_ad G 350)), some (.int a2), none, none, none]) (And.intro rfl (And.intro rfl (And.intro rfl trivial))) (mbX7_isSame_b326 C hr hl hE  yd6 _ _ _ _ (by omega) (by omega) hR)
    · refine zr_aload_n C dX7_isSame_117 rfl ?_
      refine zr_getS C fl_RX7_20 rfl dX7_isSame_118 ?_
      refine zr_iload_n C dX7_isSame_121 rfl ?_
      refine zr_aald4 C dX7_isSame_122 hR (fun hR => ?_)
      refine zr_astore C dX7_isSame_123 rfl (by decide) ?_
      refine zr_aload_n C dX7_isSame_125 rfl ?_
      refine zr_getS C fl_RX7_24 rfl dX7_isSame_126 ?_
      refine zr_alen2 C dX7_isSame_129 hR (fun hR => ?_)
      refine zr_iconst (v := 1) C dX7_isSame_130 (by decide) ?_
      refine zr_isub C dX7_isSame_131 ?_
      refine zr_istore C dX7_isSame_132 rfl (by decide) ?_
      exact zr_sub (lv9 := [some (.ref (yd 0)), some (.ref (xg_ad G 350)), some (.int a2), some (.int a3), some (.ref (yd (10 + (Int32.toNatClampNeg a3)))), some (.int ((nI (y.2 4)) - (1 : Int32)))]) (And.intro rfl (And.intro rfl (And.intro rfl (And.intro rfl (And.intro rfl (And.intro rfl trivial)))))) (mbX7_isSame_b134 C hr hl hE (NK108 := (0)) (MK108 := (0)) (fun yd h y z2 z3 h1 h2 h3 => ih yd h y z2 z3 (by omega) (by omega) h3) _ yd _ _ _ (by omega) (by omega) hR)
set_option maxHeartbeats 4000000 in
set_option maxRecDepth 100000 in
theorem mbX7_isSame_b61 {p : Program} {l : Launch} {e : Env} {s : State} {m : MethodId} {args : Array Value} {below : List Frame} {meth : Method} {c : Code} {G : xw_G} (C : zj_C p s m args meth c G RX7 cX7_isSame 6) (hr : meth.sig.returnType = (some .boolean)) (hl : l.stackTraces = false) {Q : State → Prop} {yS : Nat → Nat} {q : xw_M × yz_Y × Int32} (hE : ∀ {cells slots : Nat} (yd : Nat → Nat) (h : xw_M) (y : yz_Y) (a2 : Int32) , cells + (0) ≤ 0 → slots + (0) ≤ 0 → some (h, y, a2) = some q → zj_X p l e { frames := 8, cells := 0, slots := 0, locals := 134 } s m args below meth c G 6 cells slots Q (yz_W G (fun _ => True) yS yd h y) [some (.ref (yd 0)), some (.ref (xg_ad G 350)), some (.int a2), none, none, none] 340 []) {NK4 MK4 : Nat} {K4 : xw_M → yz_Y → Int32 → Option (xw_M × yz_Y × Int32)} {a2 : Int32} {a3 : Int32} (hK4 : ∀ {cells slots : Nat} (yd : Nat → Nat) (h : xw_M) (y : yz_Y) (a3 : Int32), cells + NK4 ≤ 0 → slots + MK4 ≤ 0 → K4 h y a3 = some q → zj_X p l e { frames := 8, cells := 0, slots := 0, locals := 134 } s m args below meth c G 6 cells slots Q (yz_W G (fun _ => True) yS yd h y) [some (.ref (yd 0)), some (.ref (xg_ad G 350)), some (.int a2), some (.int a3), none, none] 4 []) : ∀ (n : Nat) {cells slots : Nat} (yd : Nat → Nat) (h : xw_M) (y : yz_Y) (a4 : Int32), cells + (0 + NK4) ≤ 0 → slots + (0 + MK4) ≤ 0 → mX7_isSame_b61 K4 a2 a3 n h y a4 = some q → zj_X p l e { frames := 8, cells := 0, slots := 0, locals := 134 } s m args below meth c G 6 cells slots Q (yz_W G (fun _ => True) yS yd h y) [some (.ref (yd 0)), some (.ref (xg_ad G 350)), some (.int a2), some (.int a3), some (.int a4), none] 61 [] := by
  intro n
  induction n with
  | zero => intro cells slots yd h y a4 hc_4 hs_4 hR; exact absurd (show (none : Option (xw_M × yz_Y × Int32)) = some q from hR) (fun z => by cases z)
  | succ n ih =>
    intro cells slots yd h y a4 hc_4 hs_4 hR
    rw [mX7_isSame_b61.eq_2] at hR
    refine zr_iload C dX7_isSame_61 rfl ?_
    refine zr_aload_n C dX7_isSame_63 rfl ?_
    refine zr_getS C fl_RX7_14 rfl dX7_isSame_64 ?_
    refine zr_iload_n C dX7_isSame_67 rfl ?_
    refine zr_aald3 C dX7_isSame_68 hR (fun hR => ?_)
    refine zr_alen2 C dX7_isSame_69 hR (fun hR => ?_)
    refine zr_icmp_ge (tgt := 100) C dX7_isSame_70 (by decide) hR (fun hR => ?_) (fun hR => ?_)
    · refine zr_iinc (v := 1) C dX7_isSame_100 rfl (by decide) rfl (by decide) ?_
      refine zr_goto (tgt := 4) C dX7_isSame_103 (by decide) ?_
      exact zr_sub (lv9 := [some (.ref (yd 0)), some (.ref (xg_ad G 350)), some (.int a2), some (.int (a3 + 1)), none, none]) (And.intro rfl (And.intro rfl (And.intro rfl (And.intro rfl trivial)))) (hK4 yd _ _ _ (by omega) (by omega) hR)
    · refine zr_aload_n C dX7_isSame_73 rfl ?_
      refine zr_iload_n C dX7_isSame_74 rfl ?_
      refine zr_iload C dX7_isSame_75 rfl ?_
      refine zr_callCiR C (st := []) [.int a3, .int a4] cv_RX7_112 (fun _ zz zq => mcX5_valueAt l G kd_350 zz zq) rfl ⟨Nat.le_of_ble_eq_true rfl, Nat.le_of_ble_eq_true rfl⟩ (Nat.le_of_ble_eq_true rfl) ⟨by show _ ≤ 0; omega, by show _ ≤ 0; omega⟩ rfl dX7_isSame_77 hR (fun r29 hr29 hR => ?_)
      refine zr_aload_n C dX7_isSame_80 rfl ?_
      refine zr_getS C fl_RX7_14 rfl dX7_isSame_81 ?_
      refine zr_iload_n C dX7_isSame_84 rfl ?_
      refine zr_aald3 C dX7_isSame_85 hR (fun hR => ?_)
      refine zr_iload C dX7_isSame_86 rfl ?_
      refine zr_iald C dX7_isSame_88 hR (fun hR => ?_)
      refine zr_icmp_eq (tgt := 94) C dX7_isSame_89 (by decide) hR (fun hR => ?_) (fun hR => ?_)
      · refine zr_iinc (v := 1) C dX7_isSame_94 rfl (by decide) rfl (by decide) ?_
        refine zr_goto (tgt := 61) C dX7_isSame_97 (by decide) ?_
        exact zr_sub (lv9 := [some (.ref (yd 0)), some (.ref (xg_ad G 350)), some (.int a2), some (.int a3), some (.int (a4 + 1)), none]) (And.intro rfl (And.intro rfl (And.intro rfl (And.intro rfl (And.intro rfl trivial))))) (ih yd _ _ _ (by omega) (by omega) hR)
      · cases hR
set_option maxHeartbeats 4000000 in
set_option maxRecDepth 100000 in
theorem mbX7_isSame_b4 {p : Program} {l : Launch} {e : Env} {s : State} {m : MethodId} {args : Array Value} {below : List Frame} {meth : Method} {c : Code} {G : xw_G} (C : zj_C p s m args meth c G RX7 cX7_isSame 6) (hr : meth.sig.returnType = (some .boolean)) (hl : l.stackTraces = false) {Q : State → Prop} {yS : Nat → Nat} {q : xw_M × yz_Y × Int32} (hE : ∀ {cells slots : Nat} (yd : Nat → Nat) (h : xw_M) (y : yz_Y) (a2 : Int32) , cells + (0) ≤ 0 → slots + (0) ≤ 0 → some (h, y, a2) = some q → zj_X p l e { frames := 8, cells := 0, slots := 0, locals := 134 } s m args below meth c G 6 cells slots Q (yz_W G (fun _ => True) yS yd h y) [some (.ref (yd 0)), some (.ref (xg_ad G 350)), some (.int a2), none, none, none] 340 []) {a2 : Int32}  : ∀ (n : Nat) {cells slots : Nat} (yd : Nat → Nat) (h : xw_M) (y : yz_Y) (a3 : Int32), cells + (0) ≤ 0 → slots + (0) ≤ 0 → mX7_isSame_b4  a2 n h y a3 = some q → zj_X p l e { frames := 8, cells := 0, slots := 0, locals := 134 } s m args below meth c G 6 cells slots Q (yz_W G (fun _ => True) yS yd h y) [some (.ref (yd 0)), some (.ref (xg_ad G 350)), some (.int a2), some (.int a3), none, none] 4 [] := by
  intro n
  induction n with
  | zero => intro cells slots yd h y a3 hc_x hs_x hR; exact absurd (show (none : Option (xw_M × yz_Y × Int32)) = some q from hR) (fun z => by cases z)
  | succ n ih =>
    intro cells slots yd h y a3 hc_x hs_x hR
    rw [mX7_isSame_b4.eq_2] at hR
    refine zr_iload_n C dX7_isSame_4 rfl ?_
    refine zr_aload_n C dX7_isSame_5 rfl ?_
    refine zr_getS C fl_RX7_7 rfl dX7_isSame_6 ?_
    refine zr_alen2 C dX7_isSame_9 hR (fun hR => ?_)
    refine zr_icmp_ge (tgt := 106) C dX7_isSame_10 (by decide) hR (fun hR => ?_) (fun hR => ?_)
    · refine zr_iconst (v := 0) C dX7_isSame_106 (by decide) ?_
      refine zr_istore_n C dX7_isSame_107 rfl (by decide) ?_
      exact zr_sub (lv9 := [some (.ref (yd 0)), some (.ref (xg_ad G 350)), some (.int a2), some (.int (0 : Int32)), none, none]) (And.intro rfl (And.intro rfl (And.intro rfl (And.intro rfl trivial)))) (mbX7_isSame_b108 C hr hl hE  _ yd _ _ _ _ (by omega) (by omega) hR)
    · refine zr_aload_n C dX7_isSame_13 rfl ?_
      refine zr_iload_n C dX7_isSame_14 rfl ?_
      refine zr_callCiR C (st := []) [.int a3] cv_RX7_96 (fun _ zz zq => mcX5_held l G kd_350 zz zq) rfl ⟨Nat.le_of_ble_eq_true rfl, Nat.le_of_ble_eq_true rfl⟩ (Nat.le_of_ble_eq_true rfl) ⟨by show _ ≤ 0; omega, by show _ ≤ 0; omega⟩ rfl dX7_isSame_15 hR (fun r20 hr20 hR => ?_)
      refine zr_aload_n C dX7_isSame_18 rfl ?_
      refine zr_getS C fl_RX7_14 rfl dX7_isSame_19 ?_
      refine zr_iload_n C dX7_isSame_22 rfl ?_
      refine zr_aald3 C dX7_isSame_23 hR (fun hR => ?_)
      refine zr_alen2 C dX7_isSame_24 hR (fun hR => ?_)
      refine zr_icmp_ne (tgt := 56) C dX7_isSame_25 (by decide) hR (fun hR => ?_) (fun hR => ?_)
      · cases hR
      · refine zr_aload_n C dX7_isSame_28 rfl ?_
        refine zr_iload_n C dX7_isSame_29 rfl ?_
        refine zr_callCiR C (st := []) [.int a3] cv_RX7_102 (fun _ zz zq => mcX5_sendersAt l G kd_350 zz zq) rfl ⟨Nat.le_of_ble_eq_true rfl, Nat.le_of_ble_eq_true rfl⟩ (Nat.le_of_ble_eq_true rfl) ⟨by show _ ≤ 0; omega, by show _ ≤ 0; omega⟩ rfl dX7_isSame_30 hR (fun r21 hr21 hR => ?_)
        refine zr_aload_n C dX7_isSame_33 rfl ?_
        refine zr_iconst (v := 1) C dX7_isSame_34 (by decide) ?_
        refine zr_iload_n C dX7_isSame_35 rfl ?_
        refine zr_callVi C (st := [.int r21.2.1]) [.int (1 : Int32), .int a3] cv_RX7_105 (fun _ _ => trivial) (fun _ zz => zcX7_waitingAt l G zz) rfl ⟨Nat.le_of_ble_eq_true rfl, Nat.le_of_ble_eq_true rfl⟩ (Nat.le_of_ble_eq_true rfl) ⟨by show _ ≤ 0; omega, by show _ ≤ 0; omega⟩ rfl dX7_isSame_36 hR (fun r22 hr22 hR yd23 hy24 => ?_)
        rw [← hy24 0 (fun z => by have z1 := z.1; have z2 := z.2; omega)]
        refine zr_icmp_ne (tgt := 56) C dX7_isSame_39 (by decide) hR (fun hR => ?_) (fun hR => ?_)
        · cases hR
        · refine zr_aload_n C dX7_isSame_42 rfl ?_
          refine zr_iload_n C dX7_isSame_43 rfl ?_
          refine zr_callCiR C (st := []) [.int a3] cv_RX7_109 (fun _ zz zq => mcX5_takersAt l G kd_350 zz zq) rfl ⟨Nat.le_of_ble_eq_true rfl, Nat.le_of_ble_eq_true rfl⟩ (Nat.le_of_ble_eq_true rfl) ⟨by show _ ≤ 0; omega, by show _ ≤ 0; omega⟩ rfl dX7_isSame_44 hR (fun r25 hr25 hR => ?_)
          refine zr_aload_n C dX7_isSame_47 rfl ?_
          refine zr_iconst (v := 2) C dX7_isSame_48 (by decide) ?_
          refine zr_iload_n C dX7_isSame_49 rfl ?_
          refine zr_callVi C (st := [.int r25.2.1]) [.int (2 : Int32), .int a3] cv_RX7_105 (fun _ _ => trivial) (fun _ zz => zcX7_waitingAt l G zz) rfl ⟨Nat.le_of_ble_eq_true rfl, Nat.le_of_ble_eq_true rfl⟩ (Nat.le_of_ble_eq_true rfl) ⟨by show _ ≤ 0; omega, by show _ ≤ 0; omega⟩ rfl dX7_isSame_50 hR (fun r26 hr26 hR yd27 hy28 => ?_)
          rw [← hy28 0 (fun z => by have z1 := z.1; have z2 := z.2; omega)]
          refine zr_icmp_eq (tgt := 58) C dX7_isSame_53 (by decide) hR (fun hR => ?_) (fun hR => ?_)
          · refine zr_iconst (v := 0) C dX7_isSame_58 (by decide) ?_
            refine zr_istore C dX7_isSame_59 rfl (by decide) ?_
            exact zr_sub (lv9 := [some (.ref (yd27 0)), some (.ref (xg_ad G 350)), some (.int a2), some (.int a3), some (.int (0 : Int32)), none]) (And.intro rfl (And.intro rfl (And.intro rfl (And.intro rfl (And.intro rfl trivial))))) (mbX7_isSame_b61 C hr hl hE (NK4 := (0)) (MK4 := (0)) (fun yd h y z3 h1 h2 h3 => ih yd h y z3 (by omega) (by omega) h3) _ yd27 _ _ _ (by omega) (by omega) hR)
          · cases hR
set_option maxHeartbeats 4000000 in
set_option maxRecDepth 100000 in
theorem mzX7_isSame {p : Program} {l : Launch} {e : Env} {s : State} {m : MethodId} {args : Array Value} {below : List Frame} {meth : Method} {c : Code} {G : xw_G} (C : zj_C p s m args meth c G RX7 cX7_isSame 6) (hr : meth.sig.returnType = (some .boolean)) (hl : l.stackTraces = false) {Q : State → Prop} {yS : Nat → Nat} {q : xw_M × yz_Y × Int32} (hE : ∀ {cells slots : Nat} (yd : Nat → Nat) (h : xw_M) (y : yz_Y) (a2 : Int32) , cells + (0) ≤ 0 → slots + (0) ≤ 0 → some (h, y, a2) = some q → zj_X p l e { frames := 8, cells := 0, slots := 0, locals := 134 } s m args below meth c G 6 cells slots Q (yz_W G (fun _ => True) yS yd h y) [some (.ref (yd 0)), some (.ref (xg_ad G 350)), some (.int a2), none, none, none] 340 []) {h : xw_M} {y : yz_Y} {cells slots : Nat} (yd : Nat → Nat) (hc_x : cells + (0) ≤ 0) (hs_x : slots + (0) ≤ 0) (hR : mX7_isSame  h y = some q) : zj_X p l e { frames := 8, cells := 0, slots := 0, locals := 134 } s m args below meth c G 6 cells slots Q (yz_W G (fun _ => True) yS yd h y) [some (.ref (yd 0)), some (.ref (xg_ad G 350)), none, none, none, none] 0 [] := by
  unfold mX7_isSame at hR
  refine zr_iconst (v := 0) C dX7_isSame_0 (by decide) ?_
  refine zr_istore_n C dX7_isSame_1 rfl (by decide) ?_
  refine zr_iconst (v := 0) C dX7_isSame_2 (by decide) ?_
  refine zr_istore_n C dX7_isSame_3 rfl (by decide) ?_
  exact zr_sub (lv9 := [some (.ref (yd 0)), some (.ref (xg_ad G 350)), some (.int (0 : Int32)), some (.int (0 : Int32)), none, none]) (And.intro rfl (And.intro rfl (And.intro rfl (And.intro rfl trivial)))) (mbX7_isSame_b4 C hr hl hE  _ yd _ _ _ (by omega) (by omega) hR)
end
