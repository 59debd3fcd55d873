/-! THE CLAIM OUT OF ONE WALK OF THE LAW'S BODY. Your part is whole_start (and what it stands on); all else here is the same for every law, but numbers. -/
def R_law : String := "WaterFibersLaw"
def lw_P (b : Addr) (xs : List Int32) (args : Array Value) (s : State) : Prop := args = #[.ref b] ∧ s.IntsAt b xs ∧ xs.length ≤ 260 ∧ (Jvm.Cond.and given_1 narrow_1).before args s = true
/-- what a walk over the start with the record d0 says of its end, said of the start itself -/
theorem lw_closed {s t : State} {o : Outcome} {d0 : Drawn} {L : List Loc} {k n : Nat} (hd0 : s.drawn.sameBut d0 lw_cs) (hv : ∃ v, o = .returned v) (hW : (s.setDrawn d0).WarmedH t.vm) (hs : (s.setDrawn d0).sameButNew ({ t with vm := s.vm } : State) L k n) : State.butDraws s t lw_cs (fun t1 => Framed s o t1 L k n) := by
  have h2 : t.drawn = d0 := congrArg State.drawn hs.1
  refine ⟨⟨hv, hW, State.sameButNew.setDrawn hs s.drawn⟩, ?_, by decide⟩
  rw [h2]
  exact hd0
def lw_Q (_ : Array Value) (s : State) (o : Outcome) (t : State) : Prop := o = .returned (some (.int 1)) ∧ State.butDraws s t lw_cs (fun t1 => Framed s o t1 [] 1117135 5750220)
def lw_Z (below : List Frame) (a : Array Value) (s : State) : State → Prop := fun t => ∃ o, t.status = .running ∧ Ended t below o ∧ lw_Q a s o t
/-- the law's own end, with 1 on the stack, nothing written that was there before, its room as the claim has it; d0: the record of draws at this point (at the entry s.drawn: begin with 'refine W.base ?_' and 'have hd0 := Drawn.sameBut.refl s.drawn lw_cs') -/
theorem lw_ret {p : Program} {l : Launch} {e : Env} {s : State} {m : MethodId} {below : List Frame} {meth : Method} {c : Code} {b : Nat} {d0 : Drawn} (hd0 : s.drawn.sameBut d0 lw_cs) (hx : p.tables.exec = Jvm.exec) (hb : c.code = code) (hr : meth.sig.returnType = ret) (hlocks : meth.locks = false) {pc : Nat} {H : Heap} {ls : Array Slot} (hdg : decode code pc = .ok (.ireturn, 1)) : W p l e room_1 (s.setDrawn d0) m #[Value.ref b] below meth c H [] 1117135 5750220 (lw_Z below #[Value.ref b] s) (F0 m pc ls [.int 1]) := by
  intro T hT X
  obtain ⟨fs, hret, hrun, hended, hW, hframe⟩ := X.leave (v := some (.int 1)) (hlocks := hlocks) (fun h => by rw [hr] at h; cases h)
  have hmeth' : T.vm.method? m = some meth := X.method'
  refine ⟨T.setFrames fs, ?_, .returned (some (.int 1)), hrun, hended, rfl, lw_closed hd0 ⟨_, rfl⟩ hW hframe⟩
  jvm_step X.here [X.here.top, hx, hb, hdg, hmeth', hr, ret, narrow_b1]
  (try refine ⟨rfl, ?_⟩); (try refine ⟨rfl, ?_⟩)
  first | (intro acts; rw [hret _ acts rfl rfl rfl]) | rw [hret _ _ rfl rfl rfl]
  exact Steps.refl _
/-- what holds at the law's entry: the machine, the code, the tables' words (any of lw_tbl by 'hts w (by decide +kernel)'), the script of L ints xs at the cell b, what the Statement gives of the start (any of its parts by flat_of_before) -/
def lw_At (p : Program) (s : State) (m : MethodId) (meth : Method) (c : Code) (b L : Nat) (xs : Nat → Int32) : Prop :=
  p.tables.exec = Jvm.exec ∧ c.code = code ∧ meth.sig.returnType = ret ∧ c.maxLocals = 30 ∧ s.vm.findClass R_law = some m.cls ∧ (∀ w ∈ lw_tbl, w.before #[Value.ref b] s = true) ∧ va_X b L xs s s.heap ∧ b < s.heap.size ∧ meth.locks = false ∧ (Jvm.Cond.and given_1 narrow_1).before #[Value.ref b] s = true
theorem xs_inst : ∀ (c : Nat) (r : vw_C), vwCl[c]? = some r → Cond.instantiable r.1 r.2.2 ∈ lw_tbl
  | 0, _, h => by cases h; decide +kernel
  | 1, _, h => by cases h; decide +kernel
  | 2, _, h => by cases h; decide +kernel
  | 3, _, h => by cases h; decide +kernel
  | 4, _, h => by cases h; decide +kernel
  | 5, _, h => by cases h; decide +kernel
  | 6, _, h => by cases h; decide +kernel
  | 7, _, h => by cases h; decide +kernel
  | n + 8, _, h => by simp [vwCl] at h
theorem xs_arr {s : State} {args : Array Value} {ty : FieldType} (hpr : ∀ C, ty ≠ .object C) (h : (Cond.arrayClass ty).before args s = true) : ∃ cA : ClassId, ArrOfT s cA ty ∧ va_RA s cA ty := by
  obtain ⟨cA, k, comp, f1, f2, f3⟩ := Cond.arrayClass_spec h
  refine ⟨cA, fun n z => ⟨(fun k h => by cases h), k, f2, comp, f3⟩, ?_⟩
  unfold va_RA
  split
  · rename_i C
    exact absurd rfl (hpr C)
  · exact f1
theorem xs_arrO {s : State} {args : Array Value} {C : String} (h : (Cond.arrayOver (.object C)).before args s = true) : ∃ cA : ClassId, ArrOfT s cA (.object C) ∧ va_RA s cA (.object C) := by
  obtain ⟨comp, cA, k, f1, f2, f3, f4, f5⟩ := Cond.arrayOver_spec h
  exact ⟨cA, fun n z => ⟨(fun k h => by cases h), k, f3, comp, f4⟩, k, comp, f3, f4, f1, f5⟩
theorem xs_arrA {s : State} {args : Array Value} (h : (Cond.arrayOver (.array .int)).before args s = true) : ∃ cA : ClassId, ArrOfT s cA (.array .int) ∧ va_RA s cA (.array .int) := by
  obtain ⟨comp, cA, k, f1, f2, f3, f4, f5⟩ := arrayOverA_spec h
  exact ⟨cA, fun n z => ⟨(fun k h => by cases h), k, f3, comp, f4⟩, f5⟩
theorem xs_G {s : State} {args : Array Value} {b L : Nat} {xs : Nat → Int32} (hts : ∀ w ∈ lw_tbl, w.before args s = true) : ∃ G : xw_G, xg_ad G = xi_ad s.heap.size ∧ xg_z G = s.heap.size ∧ xg_N G = 351 ∧ xg_b G = b ∧ xg_L G = L ∧ xg_xs G = xs ∧ va_K (xg_D G) vwCl (xw_tys G) s := by
  have hk : ∀ c : Nat, ∃ q : ClassId × (Nat → Nat), ∀ r : vw_C, vwCl[c]? = some r → u_Kn s r.1 r.2.1 r.2.2 q.1 q.2 := by
    intro c
    cases hr : vwCl[c]? with
    | none => exact ⟨(0, fun _ => 0), fun r h => by cases h⟩
    | some r =>
      obtain ⟨g1, -⟩ := xw_cl c r hr
      obtain ⟨cC, iS, h⟩ := u_known hts (fun w hw => lw_g_tbl (g1 w hw)) (hts _ (xs_inst c r hr))
      exact ⟨(cC, iS), fun r9 h9 => by cases h9; exact h⟩
  obtain ⟨t0, a0⟩ := xs_arr (ty := .int) (fun _ h => by cases h) (hts _ (by decide +kernel))
  obtain ⟨t1, a1⟩ := xs_arrO (C := RX0) (hts _ (by decide +kernel))
  obtain ⟨t2, a2⟩ := xs_arrO (C := RX2) (hts _ (by decide +kernel))
  obtain ⟨t3, a3⟩ := xs_arrO (C := RX4) (hts _ (by decide +kernel))
  obtain ⟨t4, a4⟩ := xs_arr (ty := .boolean) (fun _ h => by cases h) (hts _ (by decide +kernel))
  obtain ⟨t5, a5⟩ := xs_arrA (hts _ (by decide +kernel))
  obtain ⟨t6, a6⟩ := xs_arrO (C := RX6) (hts _ (by decide +kernel))
  refine ⟨(fun c => (Classical.choose (hk c)).1, fun c => (Classical.choose (hk c)).2, fun t => match t with | 0 => t0 | 1 => t1 | 2 => t2 | 3 => t3 | 4 => t4 | 5 => t5 | _ => t6, xi_ad s.heap.size, s.heap.size, 351, b, L, xs), rfl, rfl, rfl, rfl, rfl, rfl, fun c r hr => Classical.choose_spec (hk c) r hr, fun k q hq => ?_⟩
  match k, hq with
  | 0, hq => cases hq; exact a0
  | 1, hq => cases hq; exact a1
  | 2, hq => cases hq; exact a2
  | 3, hq => cases hq; exact a3
  | 4, hq => cases hq; exact a4
  | 5, hq => cases hq; exact a5
  | 6, hq => cases hq; exact a6
  | n + 7, hq => simp [xw_tys] at hq
theorem xs_str1 {own tx : String} {k : Nat} {args : Array Value} {s : State} (h1 : (Cond.stringRef own k tx).before args s = true) (h2 : (Cond.exactly (.string own k) "java/lang/String").before args s = true) : ∃ a : Nat, vk_R own k tx a s := by
  obtain ⟨a, c0, cell, kA, ha, -⟩ := Cond.exactly_spec h2
  exact ⟨a, vk_R.of h1 ha⟩
set_option maxRecDepth 20000 in
theorem xs_X {s : State} {args : Array Value} {A : Nat → Prop} (hts : ∀ w ∈ lw_tbl, w.before args s = true) (hgv : (Jvm.Cond.and given_1 narrow_1).before args s = true) (hA : ∀ a : Nat, a < s.heap.size → ¬ A a) : xw_X A s s.heap := by
  have hs := flat_of_before _ hgv
  refine ⟨fun q hq => ?_, fun w hw => ?_, fun x hx y hy hn => ?_, ?_, ?_⟩
  · exact xs_str1 (hts _ ((show ∀ q ∈ xw_str, Cond.stringRef q.1 q.2.1 q.2.2 ∈ lw_tbl by decide +kernel) q hq)) (hs _ ((show ∀ q ∈ xw_str, Cond.exactly (.string q.1 q.2.1) "java/lang/String" ∈ flatC (Jvm.Cond.and given_1 narrow_1) by decide +kernel) q hq))
  · exact va_Nw.of (xw_nw_tab w hw) (hts _ ((show ∀ w ∈ xw_nw, w ∈ lw_tbl by decide +kernel) w hw))
  · exact va_Nc.of (hs _ ((show ∀ x ∈ xw_exn, ∀ y ∈ xw_exc, x ≠ y → Cond.not (.castable x y) ∈ flatC (Jvm.Cond.and given_1 narrow_1) by decide +kernel) x hx y hy hn))
  · exact vx_Zqof (hts _ (by decide +kernel)) (hts _ (by decide +kernel)) (hs _ (by decide +kernel)) hA
  · exact vx_Zqof (hts _ (by decide +kernel)) (hts _ (by decide +kernel)) (hs _ (by decide +kernel)) hA
theorem xs_F {s : State} {args : Array Value} (hts : ∀ w ∈ lw_tbl, w.before args s = true) : xv_F s :=
  ⟨fun w hw => va_Nw.of (xv_nn_tab w hw) (hts _ ((show ∀ w ∈ xv_nn, w ∈ lw_tbl by decide +kernel) w hw)), va_AO.of (hts _ (by decide +kernel)), va_AO.of (hts _ (by decide +kernel)), va_AO.of (hts _ (by decide +kernel)), va_AO.of (hts _ (by decide +kernel)), zv_AA.of (hts _ (by decide +kernel))⟩
/-! the addresses are apart -/
theorem xi_off_lt : ∀ r, r < 175 → xi_off r < 175 := by decide +kernel
theorem xi_off_inj : ∀ i, i < 175 → ∀ j, j < 175 → xi_off i = xi_off j → i = j := by decide +kernel
theorem xi_ad_case {z k : Nat} (hk : k < 351) : (k < 175 ∧ xi_ad z k = z + 1 + xi_off k) ∨ (175 ≤ k ∧ k < 350 ∧ xi_ad z k = z + 176 + xi_off (k - 175)) ∨ (k = 350 ∧ xi_ad z k = z) := by
  unfold xi_ad
  by_cases h1 : k < 175
  · left; exact ⟨h1, if_pos h1⟩
  · by_cases h2 : k < 350
    · right; left; refine ⟨by omega, h2, ?_⟩; rw [if_neg h1, if_pos h2]
    · right; right; refine ⟨by omega, ?_⟩; rw [if_neg h1, if_neg h2, if_pos (by omega)]
theorem xi_ad_inj {z i j : Nat} (hi : i < 351) (hj : j < 351) (h : xi_ad z i = xi_ad z j) : i = j := by
  rcases xi_ad_case (z := z) hi with ⟨a1, a2⟩ | ⟨a1, a3, a2⟩ | ⟨a1, a2⟩ <;> rcases xi_ad_case (z := z) hj with ⟨b1, b2⟩ | ⟨b1, b3, b2⟩ | ⟨b1, b2⟩
  · exact xi_off_inj i a1 j b1 (by omega)
  · have := xi_off_lt i a1; omega
  · omega
  · have := xi_off_lt j b1; omega
  · have := xi_off_inj (i - 175) (by omega) (j - 175) (by omega) (by omega); omega
  · omega
  · omega
  · omega
  · omega
theorem xi_ok {G : xw_G} {z : Nat} (g1 : xg_ad G = xi_ad z) (g2 : xg_z G = z) (g3 : xg_N G = 351) : xw_ok G := by
  refine ⟨Nat.le_of_eq g3.symm, fun i j hi hj h => ?_, fun k hk => ?_⟩
  · rw [g3] at hi hj
    rw [g1] at h
    exact xi_ad_inj hi hj h
  · rw [g3] at hk
    rw [g1, g2]
    rcases xi_ad_case (z := z) hk with ⟨a1, a2⟩ | ⟨a1, a3, a2⟩ | ⟨a1, a2⟩ <;> omega
theorem xi_kK {G : xw_G} {y o : Nat} (ho : o < 175) : ∃ e, xv_kK G (fun _ => none) y (y + 1) 4 8 (y + o) = some e := by
  unfold xv_kK
  repeat' split
  all_goals first | exact ⟨_, rfl⟩ | omega
/-- the whole first world -/
def xi_w (G : xw_G) (z : Nat) : xv_W := xv_kW G (xv_up (fun _ => none) z (.inr (5, [.null, .null]))) z (z + 1)
theorem xi_w1 {G : xw_G} {z x : Nat} (h1 : z + 1 ≤ x) (h2 : x < z + 176) : xi_w G z x = xv_kK G (fun _ => none) (z + 1) (z + 1 + 1) 4 8 x := by
  unfold xi_w xv_kW
  rw [if_neg (by omega), if_pos (by omega)]
theorem xi_w2 {G : xw_G} {z x : Nat} (h1 : z + 176 ≤ x) (h2 : x < z + 351) : xi_w G z x = xv_kK G (fun _ => none) (z + 176) (z + 176 + 1) 4 8 x := by
  unfold xi_w xv_kW
  rw [if_neg (by omega), if_neg (by omega), if_pos (by omega)]
theorem xi_w3 {G : xw_G} {z : Nat} : xi_w G z z = some (.inr (5, [.ref (z + 1), .ref (z + 1 + 175)])) := by
  unfold xi_w xv_kW
  rw [if_pos rfl]
theorem xi_hg {k : Nat} : xi_h k = if k < 175 then xi_g k else if k < 350 then xi_g (k - 175) else fun _ => 0 := rfl
set_option maxHeartbeats 4000000 in
set_option maxRecDepth 100000 in
theorem xi_P {G : xw_G} {z sz : Nat} {H : Heap} (g1 : xg_ad G = xi_ad z) (g3 : xg_N G = 351) (h : xv_H G (xi_w G z) sz H) : xw_P G xi_h H := by
  intro k q hq
  obtain ⟨hk, rfl⟩ := xw_at hq
  rw [g3] at hk
  have hat := h.2.1
  show va_at (xg_D G) vwCl (xg_ad G k, xw_ct (xg_T G) (xg_ad G) (xw_kd k) k (xi_h k)) H
  rw [g1, xi_hg]
  rcases xi_ad_case (z := z) hk with ⟨a1, a2⟩ | ⟨a1, a3, a2⟩ | ⟨a1, a2⟩
  · rw [if_pos a1]
    obtain ⟨e, he⟩ := xi_kK (G := G) (y := z + 1) (xi_off_lt k a1)
    have hlt := xi_off_lt k a1
    have hh := (hat (z + 1 + xi_off k) e ((xi_w1 (by omega) (by omega)).trans he)).1
    have hh2 := xi_clock (ad := xi_ad z) (B := 0) (y := z + 1) (r := k) (Or.inl rfl) (fun r hr => by unfold xi_ad; rw [if_pos (by omega), Nat.zero_add]) a1 he hh
    rw [Nat.zero_add] at hh2
    exact hh2
  · rw [if_neg (by omega), if_pos a3]
    have hlt := xi_off_lt (k - 175) (by omega)
    obtain ⟨e, he⟩ := xi_kK (G := G) (y := z + 176) hlt
    have hh := (hat (z + 176 + xi_off (k - 175)) e ((xi_w2 (by omega) (by omega)).trans he)).1
    have hh2 := xi_clock (ad := xi_ad z) (B := 175) (y := z + 176) (r := k - 175) (Or.inr rfl) (fun r hr => by unfold xi_ad; rw [if_neg (by omega), if_pos (by omega), show 175 + r - 175 = r by omega]) (by omega) he hh
    rw [show 175 + (k - 175) = k by omega] at hh2
    exact hh2
  · subst a1
    rw [if_neg (by omega), if_neg (by omega), a2]
    exact (hat z _ xi_w3).1
