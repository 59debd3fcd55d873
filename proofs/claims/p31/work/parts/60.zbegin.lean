/-- what the last question, the mean, has to be -/
def yz_mean (y : yz_Y) (a : Int32) (r : Nat × Int32 × Int32) : Prop := if y.2 3 = 0 then r.1 = 0 else r = (1, a, nI (y.2 3))
set_option maxHeartbeats 4000000 in
set_option maxRecDepth 100000 in
theorem zcX7_isSame (l : Launch) (G : xw_G) (hl : l.stackTraces = false) {yS : Nat → Nat} {h : xw_M} {y : yz_Y} {q : xw_M × yz_Y × Int32} {r : xw_M × Nat × Int32 × Int32} (hR : mX7_isSame  h y = some q) (hm : mX5_meanTurns 350 q.1 = some r) (hc : yz_mean q.2.1 q.2.2 r.2) (h8 : q.2.1.2 3 ≤ 8) : MetD lw_cs l yX7_isSame (.code yX7_isSame cX7_isSame 6 (some .boolean) :: lw_g) { frames := 8, cells := 0, slots := 0, locals := 134 } (va_Pc [.ref (yS 0), .ref (xg_ad G 350)] (zP G (yz_W G (fun _ => True) yS yS h y))) (fun _ s o t => o = .returned (some (.int 1)) ∧ va_F (xg_B G) s t) 0 0 (xg_B G) := by
  refine MetD.ofW (cc := cX7_isSame) (maxL := 6) (ret := some .boolean) (by decide +kernel) rfl ?_
  intro p e s m args below meth c s₁ B hml hv hd0
  obtain ⟨rfl, hP, hK, hG, hX, hF, hz, hb, hb2⟩ := hv
  have hts : ∀ w ∈ lw_g, w.before #[.ref (yS 0), .ref (xg_ad G 350)] s = true := fun w hw => atoms_spec (ws := .code yX7_isSame cX7_isSame 6 (some .boolean) :: lw_g) B.pre w (List.mem_cons_of_mem _ hw)
  have hle := lv_entry [.ref (yS 0), .ref (xg_ad G 350)] (n := 6) (Nat.le_of_ble_eq_true rfl)
  rw [lg_entry_eq]
  have hx := B.exec
  have hb9 := B.bytes
  have hr := B.returns
  have hlocks := B.notSynchronized
  have C : zj_C p (s.setDrawn s.drawn) m #[.ref (yS 0), .ref (xg_ad G 350)] meth c G RX7 cX7_isSame 6 := ⟨B.exec, B.bytes, hml, findClass_of_methodNamed B.named, dr_words hts _, hK, hG, hX, hF.same rfl, B.notSynchronized, hz, va_X.moved (u := s) (U := s.setDrawn s.drawn) (Vm.Alike.refl _) hb, hb2⟩
  refine mzX7_isSame C hr hl (yS := yS) (fun {cells slots} yd9 h9 y9 a9 c9 s9 hR9 => ?_) yS (by show 0 + 0 ≤ 0; omega) (by show 0 + 0 ≤ 0; omega) hR s.heap [] _ hP va_S.rf ⟨hle.1, hle.2.1, fun i v hi => hle.2.2 (i, v) (by have h1 := xc_entry [.ref (yS 0), .ref (xg_ad G 350)] 0 i v rfl (xc_lv_at (show (xc_lv [.ref (yS 0), .ref (xg_ad G 350)] 6)[i]? = some (some v) from hi)); rwa [Nat.zero_add] at h1)⟩
  cases hR9
  obtain ⟨rfl, rfl⟩ : cells = 0 ∧ slots = 0 := by omega
  have fin : ∀ (d2 : Drawn) (H : Heap) (locs : List Loc) (ls : Array Slot), s.drawn.sameBut d2 lw_cs → va_S (xg_B G) s.heap H locs → W p l e { frames := 8, cells := 0, slots := 0, locals := 134 } (s.setDrawn d2) m #[.ref (yS 0), .ref (xg_ad G 350)] below meth c H locs 0 0 (MQD lw_cs below (fun _ s o t => o = .returned (some (.int 1)) ∧ va_F (xg_B G) s t) #[.ref (yS 0), .ref (xg_ad G 350)] s 0 0 (xg_B G)) (F0 m 366 ls [.int 0]) := fun d2 H locs ls hd2 hS => by
    refine lv_if_ne hx hb9 (tgt := 373) dX7_isSame_366 (by decide) (fun z => absurd rfl z) (fun _ => ?_)
    refine lv_iconst hx hb9 dX7_isSame_369 (v := 1) (by decide) ?_
    refine lv_goto hx hb9 dX7_isSame_370 (tgt := 374) (by decide) ?_
    refine W.endD hd2 ?_
    exact W.zret hx hb9 hr rfl (fun t ht hW => ⟨rfl, hS.F ht⟩) hS.2.2 dX7_isSame_374
  refine zr_aload_n C dX7_isSame_340 rfl ?_
  refine zr_callE C hd0 (st := []) cv_RX7_155 (mcX5_meanTurns l G kd_350 hm) ⟨Nat.le_of_ble_eq_true rfl, Nat.le_of_ble_eq_true rfl⟩ (Nat.le_of_ble_eq_true rfl) ⟨by show 0 ≤ 0; omega, by show 0 ≤ 0; omega⟩ dX7_isSame_341 (fun x d1 hxx hd1 => ?_)
  have C := zj_CD (d1 := d1) C
  refine zr_aload_n C dX7_isSame_344 rfl ?_
  refine zr_getS C fl_RX7_20 rfl dX7_isSame_345 ?_
  refine zr_alen4 C dX7_isSame_348 ?_
  unfold yz_mean at hc
  by_cases hn : y9.2 3 = 0
  · rw [if_pos hn] at hc
    refine zr_if_ne (tgt := 356) C dX7_isSame_349 (by decide) (α := Unit) (A := none) (B := some ()) (r := some ()) (by rw [hn]; rfl) (fun z => by cases z) (fun _ => ?_)
    refine zr_dconst0 C dX7_isSame_352 ?_
    refine zr_goto (tgt := 365) C dX7_isSame_353 (by decide) ?_
    have hx0 : x = FP.dconst0 := by
      rcases hxx with ⟨g1, g2⟩ | ⟨g1, g2⟩
      · exact g2
      · rw [hc] at g1; omega
    subst hx0
    refine zr_dcmp C dX7_isSame_365 ?_
    rw [show Op.cmpValue (FP.dcmp FP.dconst0 FP.dconst0) CmpOp.l = 0 by decide +kernel]
    exact fun H locs ls hP hS hL => fin d1 H locs ls hd1 hS
  · rw [if_neg hn] at hc
    have hnz : nI (y9.2 3) ≠ 0 := fun z => by
      have := congrArg Int32.toInt z
      rw [nI_toInt (by have : y9.2 3 ≤ 8 := h8; omega)] at this
      have e0 : (0 : Int32).toInt = 0 := rfl
      omega
    refine zr_if_ne (tgt := 356) C dX7_isSame_349 (by decide) (α := Unit) (A := some ()) (B := none) (r := some ()) (if_neg hnz) (fun _ => ?_) (fun z => by cases z)
    refine zr_iload_n C dX7_isSame_356 rfl ?_
    refine zr_i2d C dX7_isSame_357 ?_
    refine zr_aload_n C dX7_isSame_358 rfl ?_
    refine zr_getS C fl_RX7_20 rfl dX7_isSame_359 ?_
    refine zr_alen4 C dX7_isSame_362 ?_
    refine zr_i2d C dX7_isSame_363 ?_
    intro H locs ls hP hS hL
    refine lv_ddiv_any hd1 lw_bits hx hb9 dX7_isSame_364 (fun z d2 hal hd2 => ?_)
    have e1 := zf_one hnz hal
    have e2 : x = FP.ddiv (FP.i2d a9) (FP.i2d (nI (y9.2 3))) := by
      rcases hxx with ⟨g1, g2⟩ | ⟨g1, g2⟩
      · rw [hc] at g1; cases g1
      · rw [hc] at g2; exact zf_one hnz g2
    refine lv_dcmp hx hb9 dX7_isSame_365 ?_
    rw [e1, ← e2]
    have e3 : FP.dcmp x x = some .eq := by rw [e2]; exact FP.Core.dcmp_self (zf_num hnz)
    rw [e3]
    exact fin d2 H locs ls hd2 hS
theorem lw_room_c : room_1.cells = 1117135 := rfl
/-- from the entry to the end: all that is left is what the pure functions answer -/
def lw_pure (L : Nat) (xs : Nat → Int32) : Prop := ∃ (q1 : xw_M × yz_Y × Unit) (q2 : xw_M × yz_Y × Unit) (q3 : xw_M × yz_Y × Int32) (r : xw_M × Nat × Int32 × Int32), mL_build L xs  xi_h yz_0 = some q1 ∧ mL_law L xs  q1.1 q1.2.1 = some q2 ∧ mX7_isSame  q2.1 q2.2.1 = some q3 ∧ mX5_meanTurns 350 q3.1 = some r ∧ yz_mean q3.2.1 q3.2.2 r.2 ∧ q3.2.1.2 3 ≤ 8
set_option maxHeartbeats 4000000 in
set_option maxRecDepth 100000 in
theorem lw_begin {p : Program} {e : Env} {s : State} {m : MethodId} {below : List Frame} {meth : Method} {c : Code} (l : Launch) (hflags : l.flags = flags0) {b L : Nat} {xs : Nat → Int32} (hp : lw_pure L xs) (C0 : lw_At p s m meth c b L xs) : W p l e room_1 s m #[Value.ref b] below meth c s.heap [] 0 0 (lw_Z below #[Value.ref b] s) (entryFrame m ([Value.ref b] : List Value).toArray 30) := by
  obtain ⟨h1, h2, h3, h4, h5, h6, h7, h8, h9, h10⟩ := C0
  obtain ⟨G, g1, g2, g3, g4, g5, g6, hK⟩ := xs_G (b := b) (L := L) (xs := xs) h6
  obtain ⟨q1, q2, q3, r, p1, p2, p3, p4, p5, p6⟩ := hp
  have hX : xw_X (xg_B G) s s.heap := xs_X h6 h10 (fun a ha hA => absurd (Nat.lt_of_lt_of_le ha (g2 ▸ hA)) (Nat.lt_irrefl _))
  have hlg : ∀ w ∈ lw_g, w.before #[Value.ref b] s = true := fun w hw => h6 w (lw_g_tbl hw)
  have hok : xw_ok G := xi_ok g1 g2 g3
  have C : xv_C p s m #[Value.ref b] meth c G RL cL_law 30 := ⟨h1, h2, h4, h5, hlg, hK, xs_F h6, h9, Nat.le_of_eq g2⟩
  have C1 : zj_C p (s.setDrawn s.drawn) m #[Value.ref b] meth c G RL cL_law 30 := ⟨h1, h2, h4, h5, dr_words hlg _, hK, hok, hX.same rfl, (xs_F h6).same rfl, h9, Nat.le_of_eq g2, va_X.moved (u := s) (U := s.setDrawn s.drawn) (Vm.Alike.refl _) (by rw [g4, g5, g6]; exact h7), by rw [g4, g2]; exact h8⟩
  have hl : l.stackTraces = false := by unfold Launch.stackTraces; rw [hflags]; decide +kernel
  have rest : zj_X p l e room_1 (s.setDrawn s.drawn) m #[Value.ref b] below meth c G 30 351 1736 (lw_Z below #[Value.ref b] s) (xw_P G xi_h) ([some (.ref (xg_b G)), some (.ref (xg_ad G 350))] ++ List.replicate 28 none) 8 [] := by
    refine zr_aload_n C1 dL_law_8 rfl ?_
    refine zr_aload_n C1 dL_law_9 rfl ?_
    refine zr_goS (As := [.ref (xg_ad G 350), .ref (xg_b G)]) C1 cs_RL_87 (zcL_build l G hl (by rw [g5, g6]; exact p1)) (fun H h => h) rfl ⟨Nat.le_of_ble_eq_true rfl, Nat.le_of_ble_eq_true rfl⟩ (Nat.le_of_ble_eq_true rfl) ⟨by show 351 + 101022 ≤ 1117135; omega, by show 1736 + 1313215 ≤ 5750220; omega⟩ dL_law_10 (fun rv => ?_)
    refine zr_ex (Pr2 := fun yd' H' => rv = some (.ref (yd' 0)) ∧ yz_W G (fun _ => True) (fun _ => 0) yd' q1.1 q1.2.1 H') (fun H hH => by obtain ⟨H0, -, yd', e1, e2⟩ := hH; exact ⟨yd', e1, e2⟩) (fun yd => ?_)
    refine zr_pure (φ := rv = some (.ref (yd 0))) (fun H h => h.1) (fun hrv => ?_)
    subst hrv
    refine zr_eqH (Pr2 := yz_W G (fun _ => True) (fun _ => 0) yd q1.1 q1.2.1) (fun H h => h.2) ?_
    refine zr_astore_n C1 dL_law_13 rfl (by decide) ?_
    refine zr_aload_n C1 dL_law_14 rfl ?_
    refine zr_ifnonnull (tgt := 20) C1 dL_law_15 (by decide) ?_
    refine zr_sub (lv9 := [some (.ref (xg_b G)), some (.ref (xg_ad G 350)), some (.ref (yd 0)), none, none, none, none, none, none, none, none, none, none, none, none, none, none, none, none, none, none, none, none, none, none, none, none, none, none, none]) (And.intro rfl (And.intro rfl (And.intro rfl trivial))) ?_
    refine mzL_law C1 h3 hl (yS := fun _ => 0) (fun {cells slots} yd9 h0 y9 c9 s9 hR9 => ?_) yd (by show 351 + 101022 + (103257) ≤ 1117135; omega) (by show 1736 + 1313215 + (1341256) ≤ 5750220; omega) (by rw [g5, g6]; exact p2)
    cases hR9
    refine zr_aload_n C1 dL_law_1182 rfl ?_
    refine zr_aload_n C1 dL_law_1183 rfl ?_
    intro H locs ls hP hS hL
    obtain ⟨hw, ⟨r9, h19, h29⟩, h39⟩ := id cv_RL_161
    have hcell := hP.2.1 0 (yz_on0 (by decide))
    have hrv := va_recv (q0 := 0) C1.2.2.2.2.2.1 (va_P1 hcell) h19 rfl
    rw [h29] at hrv
    have hrun := va_runV_D (As := [.ref (xg_ad G 350)]) (g := F0 m 1184 ls [.ref (xg_ad G 350), .ref (yd9 0)]) (rest := []) (p := p) (e := e) (R := room_1) (below := below) (meth := meth) (locs := locs) (cells := cells) (slots := slots) ⟨C1.1, C1.2.1, C1.2.2.1, C1.2.2.2.1, C1.2.2.2.2.1⟩ (zcX7_isSame l G hl (yS := yd9) p3 p4 p5 p6) (cwV 1 C1.2.2.2.2.1 (xw_goodV cv_RL_161) rfl rfl rfl ⟨rfl, h39⟩ ⟨Nat.le_of_ble_eq_true rfl, Nat.le_of_ble_eq_true rfl⟩) ⟨zT_blind, hrv, fun U hU hW => ⟨rfl, by rw [hU]; exact ⟨hP.1, hP.2.1, hP.2.2.1, fun _ _ => rfl⟩, zj_T C1 hS hU hW⟩⟩ rfl rfl hL.1 rfl (lv_room (Nat.le_of_ble_eq_true rfl)) dL_law_1184 ⟨by show cells + 0 ≤ 1117135; omega, by show slots + 0 ≤ 5750220; omega⟩
    intro T hT X
    obtain ⟨v, st₀, t, T', Lc, d', hd', h09, X', hLf, e1, e2, ⟨hv, hF⟩, stp⟩ := hrun T hT X
    obtain ⟨k1, k2, k3⟩ := vx_keep h09 e1 hS (fun _ _ z => z) (fun _ z => z) hLf hF
    cases hv
    have fin : W p l e room_1 (s.setDrawn d') m #[Value.ref b] below meth c T'.heap (locs ++ Lc) (cells + 0) (slots + 0) (lw_Z below #[Value.ref b] s) (F0 m 1187 ls [.int 1]) := by
      refine W.widen (show cells + 0 ≤ 1117135 by omega) (show slots + 0 ≤ 5750220 by omega) ?_
      refine va_forget (fun q hq => by have := k3.2.2 q hq; exact g2 ▸ this) ?_
      exact lw_ret hd' h1 h2 h3 h9 dL_law_1187
    obtain ⟨t2, a1, b1⟩ := fin T' rfl X'
    exact ⟨t2, stp t2 a1, b1⟩
  have main : xv_X p l e room_1 s m #[Value.ref b] below meth c G 30 0 0 (lw_Z below #[Value.ref b] s) (xv_H G (fun _ => none) s.heap.size) (xc_lv [Value.ref b] 30) 0 [] := by
    generalize hz : s.heap.size = z at g1 g2
    refine xv_new C nw_RL_30 (by decide) (by decide) dL_law_0 ?_
    refine xv_dup C dL_law_3 rfl ?_
    refine xv_call (st := [.ref z]) C [] ci_RL_86 (mvX5_init l G (a := z) (z := z + 1) (by omega) xv_up_eq) rfl ⟨Nat.le_of_ble_eq_true rfl, Nat.le_of_ble_eq_true rfl⟩ (Nat.le_of_ble_eq_true rfl) ⟨by decide, by decide⟩ rfl dL_law_4 ?_
    refine xv_astore_n C dL_law_7 rfl (by decide) ?_
    intro H locs ls hP hS hL
    have hw : xw_P G xi_h H := xi_P g1 g3 hP
    refine W.base ?_
    have e0 : xg_ad G 350 = z := by rw [g1]; rfl
    rw [e0, g4] at rest
    exact rest H locs ls hw hS hL
  have hl2 := lv_entry [Value.ref b] (n := 30) (Nat.le_of_ble_eq_true rfl)
  rw [lg_entry_eq]
  exact main s.heap [] _ ⟨rfl, ⟨fun a e h => absurd h (by intro z; cases z), Nat.le_of_eq g2⟩⟩ va_S.rf ⟨hl2.1, hl2.2.1, fun i v hi => hl2.2.2 (i, v) (by have h1 := xc_entry [Value.ref b] 0 i v rfl (xc_lv_at hi); rwa [Nat.zero_add] at h1)⟩
