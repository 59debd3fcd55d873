/-! what the constructors make -/
theorem xv_up_eq {w : xv_W} {a : Nat} {e : va_E} : xv_up w a e a = some e := by unfold xv_up; rw [if_pos rfl]
theorem xv_up_ne {w : xv_W} {a x : Nat} {e : va_E} (h : x ≠ a) : xv_up w a e x = w x := by unfold xv_up; rw [if_neg h]
abbrev xv_I8 (G : xw_G) : va_E := .inl (xg_T G 0, 8, .inl (fun _ => 0))
abbrev xv_Qu (z : Nat) : va_E := .inr (3, [.ref z, .int 0])
abbrev xv_St : va_E := .inr (4, [.int 3, .int 0, .int 0, .int 0])
abbrev xv_Ch (z : Nat) : va_E := .inr (0, [.int 0, .ref z, .ref (z + 2), .ref (z + 4)])
abbrev xv_Fb (num : Int32) (z : Nat) : va_E := .inr (2, [.int num, .int 5, .int 0, .int 0, .int 0, .int 0, .int 0, .int 0, .ref z, .ref (z + 1)])
abbrev xv_Ar (G : xw_G) (t n b k i : Nat) : va_E := .inl (xg_T G t, n, .inr (.inr (.inr (.inr (fun j => if j < i then some (b + k * j) else none)))))
theorem xv_Ar0 {b k : Nat} : (fun _ => none : Nat → Option Nat) = fun j => if j < 0 then some (b + k * j) else none := funext fun j => by rw [if_neg (Nat.not_lt_zero j)]
theorem xv_ArS {b k i x : Nat} (hx : x = b + k * i) : va_up (fun j => if j < i then some (b + k * j) else none) i (some x) = fun j => if j < i + 1 then some (b + k * j) else none := by
  funext j
  unfold va_up
  by_cases hj : j = i
  · subst hj
    rw [if_pos rfl, if_pos (Nat.lt_succ_self j), hx]
  · rw [if_neg hj]
    show (if j < i then some (b + k * j) else none) = _
    by_cases h2 : j < i
    · rw [if_pos h2, if_pos (by omega)]
    · rw [if_neg h2, if_neg (by omega)]
def xv_kQ (G : xw_G) (w : xv_W) (a z : Nat) : xv_W := fun x => if x = a then some (xv_Qu z) else if x = z then some (xv_I8 G) else w x
def xv_kS (w : xv_W) (a : Nat) : xv_W := fun x => if x = a then some xv_St else w x
def xv_kC (G : xw_G) (w : xv_W) (a z : Nat) : xv_W := fun x => if x = a then some (xv_Ch z) else if x = z then some (xv_Qu (z + 1)) else if x = z + 1 then some (xv_I8 G) else if x = z + 2 then some (xv_Qu (z + 3)) else if x = z + 3 then some (xv_I8 G) else if x = z + 4 then some (xv_Qu (z + 5)) else if x = z + 5 then some (xv_I8 G) else w x
def xv_kF (G : xw_G) (num : Int32) (w : xv_W) (a z i : Nat) : xv_W := fun x => if x = a then some (xv_Fb num z) else if x = z then some (xv_Ar G 3 12 (z + 2) 1 i) else if z + 1 ≤ x ∧ x < z + 2 + i then some xv_St else w x
/-- a channel's block, a fiber's block, by the place in it -/
def xv_cB (G : xw_G) (z t : Nat) : va_E := if t = 0 then xv_Ch (z + 1) else if t % 2 = 1 then xv_Qu (z + t + 1) else xv_I8 G
def xv_fB (G : xw_G) (num : Int32) (z t : Nat) : va_E := if t = 0 then xv_Fb num (z + 1) else if t = 1 then xv_Ar G 3 12 (z + 3) 1 12 else xv_St
abbrev xv_Ck (z : Nat) : va_E := .inr (1, [.ref z, .ref (z + 1), .ref (z + 2), .ref (z + 9), .ref (z + 24), .int 0, .int 0, .int 0, .int 0])
def xv_kK (G : xw_G) (w : xv_W) (a z i f : Nat) : xv_W := fun x => if x = a then some (xv_Ck z) else if x = z then some (xv_Ar G 1 4 (z + 26) 7 i) else if x = z + 1 then some (xv_Ar G 2 8 (z + 54) 15 f) else if z + 2 ≤ x ∧ x < z + 9 then some (xv_cB G (z + 2) (x - (z + 2))) else if z + 9 ≤ x ∧ x < z + 24 then some (xv_fB G (-1) (z + 9) (x - (z + 9))) else if x = z + 24 then some (xv_Qu (z + 25)) else if x = z + 25 then some (xv_I8 G) else if z + 26 ≤ x ∧ x < z + 26 + 7 * i then some (xv_cB G (z + 26 + 7 * ((x - (z + 26)) / 7)) ((x - (z + 26)) % 7)) else if z + 54 ≤ x ∧ x < z + 54 + 15 * f then some (xv_fB G (nI ((x - (z + 54)) / 15)) (z + 54 + 15 * ((x - (z + 54)) / 15)) ((x - (z + 54)) % 15)) else w x
theorem nw_RX0_7 : xv_nw RX0 7 3 [.null, .int 0] := ⟨_, tyX3, rfl, tyX3_ok, lw_g_in (by decide +kernel) (by decide +kernel), lw_g_in (by decide +kernel) (by decide +kernel), lw_g_in (by decide +kernel) (by decide +kernel), fun j hj => by
    have hj : j < 2 := hj
    rcases (show j = 0 ∨ j = 1 by omega) with rfl | rfl <;> rfl, rfl⟩
theorem nw_RX2_15 : xv_nw RX2 15 4 [.int 0, .int 0, .int 0, .int 0] := ⟨_, tyX4, rfl, tyX4_ok, lw_g_in (by decide +kernel) (by decide +kernel), lw_g_in (by decide +kernel) (by decide +kernel), lw_g_in (by decide +kernel) (by decide +kernel), fun j hj => by
    have hj : j < 4 := hj
    rcases (show j = 0 ∨ j = 1 ∨ j = 2 ∨ j = 3 by omega) with rfl | rfl | rfl | rfl <;> rfl, rfl⟩
theorem nw_RX1_9 : xv_nw RX1 9 0 [.int 0, .null, .null, .null] := ⟨_, tyX0, rfl, tyX0_ok, lw_g_in (by decide +kernel) (by decide +kernel), lw_g_in (by decide +kernel) (by decide +kernel), lw_g_in (by decide +kernel) (by decide +kernel), fun j hj => by
    have hj : j < 4 := hj
    rcases (show j = 0 ∨ j = 1 ∨ j = 2 ∨ j = 3 by omega) with rfl | rfl | rfl | rfl <;> rfl, rfl⟩
theorem nw_RX1_17 : xv_nw RX1 17 2 [.int 0, .int 0, .int 0, .int 0, .int 0, .int 0, .int 0, .int 0, .null, .null] := ⟨_, tyX2, rfl, tyX2_ok, lw_g_in (by decide +kernel) (by decide +kernel), lw_g_in (by decide +kernel) (by decide +kernel), lw_g_in (by decide +kernel) (by decide +kernel), fun j hj => by
    have hj : j < 10 := hj
    rcases (show j = 0 ∨ j = 1 ∨ j = 2 ∨ j = 3 ∨ j = 4 ∨ j = 5 ∨ j = 6 ∨ j = 7 ∨ j = 8 ∨ j = 9 by omega) with rfl | rfl | rfl | rfl | rfl | rfl | rfl | rfl | rfl | rfl <;> rfl, rfl⟩
theorem nw_RX1_35 : xv_nw RX1 35 3 [.null, .int 0] := ⟨_, tyX3, rfl, tyX3_ok, lw_g_in (by decide +kernel) (by decide +kernel), lw_g_in (by decide +kernel) (by decide +kernel), lw_g_in (by decide +kernel) (by decide +kernel), fun j hj => by
    have hj : j < 2 := hj
    rcases (show j = 0 ∨ j = 1 by omega) with rfl | rfl <;> rfl, rfl⟩
theorem nw_RX5_7 : xv_nw RX5 7 1 [.null, .null, .null, .null, .null, .int 0, .int 0, .int 0, .int 0] := ⟨_, tyX1, rfl, tyX1_ok, lw_g_in (by decide +kernel) (by decide +kernel), lw_g_in (by decide +kernel) (by decide +kernel), lw_g_in (by decide +kernel) (by decide +kernel), fun j hj => by
    have hj : j < 9 := hj
    rcases (show j = 0 ∨ j = 1 ∨ j = 2 ∨ j = 3 ∨ j = 4 ∨ j = 5 ∨ j = 6 ∨ j = 7 ∨ j = 8 by omega) with rfl | rfl | rfl | rfl | rfl | rfl | rfl | rfl | rfl <;> rfl, rfl⟩
theorem nw_RL_30 : xv_nw RL 30 5 [.null, .null] := ⟨_, tyX5, rfl, tyX5_ok, lw_g_in (by decide +kernel) (by decide +kernel), lw_g_in (by decide +kernel) (by decide +kernel), lw_g_in (by decide +kernel) (by decide +kernel), fun j hj => by
    have hj : j < 2 := hj
    rcases (show j = 0 ∨ j = 1 by omega) with rfl | rfl <;> rfl, rfl⟩
theorem nw_RL_10 : xv_nw RL 10 7 [.int 0, .int 0, .null, .null, .null, .null, .null] := ⟨_, tyX7, rfl, tyX7_ok, lw_g_in (by decide +kernel) (by decide +kernel), lw_g_in (by decide +kernel) (by decide +kernel), lw_g_in (by decide +kernel) (by decide +kernel), fun j hj => by
    have hj : j < 7 := hj
    rcases (show j = 0 ∨ j = 1 ∨ j = 2 ∨ j = 3 ∨ j = 4 ∨ j = 5 ∨ j = 6 by omega) with rfl | rfl | rfl | rfl | rfl | rfl | rfl <;> rfl, rfl⟩
theorem nw_RX7_18 : xv_nw RX7 18 6 [.null, .null, .int 0, .int 0, .int 0, .int 0, .int 0, .int 0] := ⟨_, tyX6, rfl, tyX6_ok, lw_g_in (by decide +kernel) (by decide +kernel), lw_g_in (by decide +kernel) (by decide +kernel), lw_g_in (by decide +kernel) (by decide +kernel), fun j hj => by
    have hj : j < 8 := hj
    rcases (show j = 0 ∨ j = 1 ∨ j = 2 ∨ j = 3 ∨ j = 4 ∨ j = 5 ∨ j = 6 ∨ j = 7 by omega) with rfl | rfl | rfl | rfl | rfl | rfl | rfl | rfl <;> rfl, rfl⟩
theorem ci_RX0_9 : xv_ci RX0 9 yX3_init cX3_init 1 0 := ⟨Or.inr ⟨"WaterFibers", by decide +kernel⟩, lw_g_in (by decide +kernel) (by decide +kernel), lw_g_in (by decide +kernel) (by decide +kernel), lw_g_in (by decide +kernel) (by decide +kernel), rfl, by decide +kernel, by decide +kernel, by decide +kernel⟩
theorem ci_RX2_21 : xv_ci RX2 21 yX4_init cX4_init 1 0 := ⟨Or.inr ⟨"WaterFibers", by decide +kernel⟩, lw_g_in (by decide +kernel) (by decide +kernel), lw_g_in (by decide +kernel) (by decide +kernel), lw_g_in (by decide +kernel) (by decide +kernel), rfl, by decide +kernel, by decide +kernel, by decide +kernel⟩
theorem ci_RX1_23 : xv_ci RX1 23 yX0_init cX0_init 1 0 := ⟨Or.inr ⟨"WaterFibers", by decide +kernel⟩, lw_g_in (by decide +kernel) (by decide +kernel), lw_g_in (by decide +kernel) (by decide +kernel), lw_g_in (by decide +kernel) (by decide +kernel), rfl, by decide +kernel, by decide +kernel, by decide +kernel⟩
theorem ci_RX1_28 : xv_ci RX1 28 yX2_init cX2_init 3 1 := ⟨Or.inl (lw_g_in (by decide +kernel) (by decide +kernel)), lw_g_in (by decide +kernel) (by decide +kernel), lw_g_in (by decide +kernel) (by decide +kernel), lw_g_in (by decide +kernel) (by decide +kernel), rfl, by decide +kernel, by decide +kernel, by decide +kernel⟩
theorem ci_RX1_37 : xv_ci RX1 37 yX3_init cX3_init 1 0 := ⟨Or.inr ⟨"WaterFibers", by decide +kernel⟩, lw_g_in (by decide +kernel) (by decide +kernel), lw_g_in (by decide +kernel) (by decide +kernel), lw_g_in (by decide +kernel) (by decide +kernel), rfl, by decide +kernel, by decide +kernel, by decide +kernel⟩
theorem ci_RX5_9 : xv_ci RX5 9 yX1_init cX1_init 2 0 := ⟨Or.inl (lw_g_in (by decide +kernel) (by decide +kernel)), lw_g_in (by decide +kernel) (by decide +kernel), lw_g_in (by decide +kernel) (by decide +kernel), lw_g_in (by decide +kernel) (by decide +kernel), rfl, by decide +kernel, by decide +kernel, by decide +kernel⟩
theorem ci_RL_86 : xv_ci RL 86 yX5_init cX5_init 1 0 := ⟨Or.inl (lw_g_in (by decide +kernel) (by decide +kernel)), lw_g_in (by decide +kernel) (by decide +kernel), lw_g_in (by decide +kernel) (by decide +kernel), lw_g_in (by decide +kernel) (by decide +kernel), rfl, by decide +kernel, by decide +kernel, by decide +kernel⟩
theorem ci_RL_77 : xv_ci RL 77 yX7_init cX7_init 1 0 := ⟨Or.inr ⟨"WaterFibersLaw", by decide +kernel⟩, lw_g_in (by decide +kernel) (by decide +kernel), lw_g_in (by decide +kernel) (by decide +kernel), lw_g_in (by decide +kernel) (by decide +kernel), rfl, by decide +kernel, by decide +kernel, by decide +kernel⟩
theorem ci_RX7_42 : xv_ci RX7 42 yX6_init cX6_init 1 0 := ⟨Or.inr ⟨"WaterFibersLaw", by decide +kernel⟩, lw_g_in (by decide +kernel) (by decide +kernel), lw_g_in (by decide +kernel) (by decide +kernel), lw_g_in (by decide +kernel) (by decide +kernel), rfl, by decide +kernel, by decide +kernel, by decide +kernel⟩
theorem fi_RX3_9 : xw_fl RX3 9 3 0 := ⟨_, rfl, by decide, rfl, lw_g_in (by decide +kernel) (by decide +kernel)⟩
theorem fi_RX3_15 : xw_fl RX3 15 3 1 := ⟨_, rfl, by decide, rfl, lw_g_in (by decide +kernel) (by decide +kernel)⟩
set_option maxHeartbeats 4000000 in
set_option maxRecDepth 100000 in
theorem mvX3_init (l : Launch) (G : xw_G) {w : xv_W} {a z : Nat} (ha : a < z) (hw : w a = some (.inr (3, [.null, .int 0]))) : xv_M l G yX3_init cX3_init 1 1 12 1 8 [.ref a] w z (xv_kQ G w a z) (z + 1) := by
  refine xv_of (by decide +kernel) rfl rfl (Nat.le_of_ble_eq_true rfl) ?_
  intro p e s m args below meth c C hr hin
  have C : xv_C p s m args meth c G RX3 cX3_init 1 := C
  show xv_X p l e { frames := 1, cells := 1, slots := 8, locals := 12 } s m args below meth c G 1 0 0 (MQ below (xv_Q G (xv_kQ G w a z) (z + 1)) args s 1 8 (xg_B G)) (xv_H G w z) [some (.ref a)] 0 []
  refine xv_aload_n C dX3_init_0 rfl ?_
  refine xv_obj C ⟨lw_g_in (by decide +kernel) (by decide +kernel), lw_g_in (by decide +kernel) (by decide +kernel), lw_g_in (by decide +kernel) (by decide +kernel)⟩ dX3_init_1 (Nat.le_of_ble_eq_true rfl) (Nat.le_of_ble_eq_true rfl) ?_
  refine xv_aload_n C dX3_init_4 rfl ?_
  refine xv_bipush (v := 8) C dX3_init_5 (by decide) ?_
  refine xv_newi (t := 0) (n := 8) (a0 := (8, .inl (fun _ => 0))) C rfl rfl (fun _ h => by cases h) (fun _ => rfl) (by decide) (by decide) (by decide) (by decide) (by decide) (lw_g_in (by decide +kernel) (by decide +kernel)) dX3_init_7 ?_
  refine xv_put C hin (by rw [xv_up_ne (by omega)]; exact hw) fi_RX3_9 ⟨_, rfl, (by decide +kernel : _ = some (.array .int)), rfl⟩ rfl rfl (by simp) dX3_init_9 ?_
  have hW : xv_up (xv_up w z (xv_I8 G)) a (xv_Qu z) = xv_kQ G w a z := by
    funext x
    unfold xv_kQ xv_up
    rfl
  refine xv_eqH (Pr2 := xv_H G (xv_kQ G w a z) (z + 1)) (fun H h => hW ▸ h) ?_
  exact xv_vret C hr (by decide) (by decide) dX3_init_12
theorem fi_RX4_9 : xw_fl RX4 9 4 0 := ⟨_, rfl, by decide, rfl, lw_g_in (by decide +kernel) (by decide +kernel)⟩
set_option maxHeartbeats 4000000 in
set_option maxRecDepth 100000 in
theorem mvX4_init (l : Launch) (G : xw_G) {w : xv_W} {a z : Nat} (hw : w a = some (.inr (4, [.int 0, .int 0, .int 0, .int 0]))) : xv_M l G yX4_init cX4_init 1 1 12 0 0 [.ref a] w z (xv_kS w a) (z) := by
  refine xv_of (by decide +kernel) rfl rfl (Nat.le_of_ble_eq_true rfl) ?_
  intro p e s m args below meth c C hr hin
  have C : xv_C p s m args meth c G RX4 cX4_init 1 := C
  show xv_X p l e { frames := 1, cells := 0, slots := 0, locals := 12 } s m args below meth c G 1 0 0 (MQ below (xv_Q G (xv_kS w a) (z)) args s 0 0 (xg_B G)) (xv_H G w z) [some (.ref a)] 0 []
  refine xv_aload_n C dX4_init_0 rfl ?_
  refine xv_obj C ⟨lw_g_in (by decide +kernel) (by decide +kernel), lw_g_in (by decide +kernel) (by decide +kernel), lw_g_in (by decide +kernel) (by decide +kernel)⟩ dX4_init_1 (Nat.le_of_ble_eq_true rfl) (Nat.le_of_ble_eq_true rfl) ?_
  refine xv_aload_n C dX4_init_4 rfl ?_
  refine xv_iconst (v := 3) C dX4_init_5 (by decide) ?_
  refine xv_put C hin hw fi_RX4_9 ⟨_, rfl, (by decide +kernel : _ = some .int), rfl⟩ rfl rfl (by simp) dX4_init_6 ?_
  exact xv_vret C hr (by decide) (by decide) dX4_init_9
theorem fi_RX0_10 : xw_fl RX0 10 0 1 := ⟨_, rfl, by decide, rfl, lw_g_in (by decide +kernel) (by decide +kernel)⟩
theorem fi_RX0_16 : xw_fl RX0 16 0 2 := ⟨_, rfl, by decide, rfl, lw_g_in (by decide +kernel) (by decide +kernel)⟩
theorem fi_RX0_19 : xw_fl RX0 19 0 3 := ⟨_, rfl, by decide, rfl, lw_g_in (by decide +kernel) (by decide +kernel)⟩
set_option maxHeartbeats 4000000 in
set_option maxRecDepth 100000 in
theorem mvX0_init (l : Launch) (G : xw_G) {w : xv_W} {a z : Nat} (ha : a < z) (hw : w a = some (.inr (0, [.int 0, .null, .null, .null]))) : xv_M l G yX0_init cX0_init 1 2 32 6 30 [.ref a] w z (xv_kC G w a z) (z + 6) := by
  refine xv_of (by decide +kernel) rfl rfl (Nat.le_of_ble_eq_true rfl) ?_
  intro p e s m args below meth c C hr hin
  have C : xv_C p s m args meth c G RX0 cX0_init 1 := C
  show xv_X p l e { frames := 2, cells := 6, slots := 30, locals := 32 } s m args below meth c G 1 0 0 (MQ below (xv_Q G (xv_kC G w a z) (z + 6)) args s 6 30 (xg_B G)) (xv_H G w z) [some (.ref a)] 0 []
  refine xv_aload_n C dX0_init_0 rfl ?_
  refine xv_obj C ⟨lw_g_in (by decide +kernel) (by decide +kernel), lw_g_in (by decide +kernel) (by decide +kernel), lw_g_in (by decide +kernel) (by decide +kernel)⟩ dX0_init_1 (Nat.le_of_ble_eq_true rfl) (Nat.le_of_ble_eq_true rfl) ?_
  refine xv_aload_n C dX0_init_4 rfl ?_
  refine xv_new C nw_RX0_7 (by decide) (by decide) dX0_init_5 ?_
  refine xv_dup C dX0_init_8 rfl ?_
  refine xv_call (st := [.ref (z), .ref a]) C [] ci_RX0_9 (mvX3_init l G (a := z) (z := z + 1) (by omega) xv_up_eq) rfl ⟨(Nat.le_of_ble_eq_true rfl), (Nat.le_of_ble_eq_true rfl)⟩ (Nat.le_of_ble_eq_true rfl) ⟨by decide, by decide⟩ rfl dX0_init_9 ?_
  have hq0 : ∀ (w9 : xv_W) (f9 : va_E), w9 a = some f9 → xv_kQ G (xv_up w9 (z) (.inr (3, [.null, .int 0]))) (z) (z + 1) a = some f9 := fun w9 f9 h9 => by unfold xv_kQ; rw [if_neg (by omega), if_neg (by omega), xv_up_ne (by omega)]; exact h9
  refine xv_put C hin (hq0 _ _ hw) fi_RX0_10 ⟨_, rfl, (by decide +kernel : _ = some (.object "WaterFibers$Queue")), rfl⟩ rfl rfl (by simp) dX0_init_12 ?_
  refine xv_aload_n C dX0_init_15 rfl ?_
  refine xv_new C nw_RX0_7 (by decide) (by decide) dX0_init_16 ?_
  refine xv_dup C dX0_init_19 rfl ?_
  refine xv_call (st := [.ref (z + 2), .ref a]) C [] ci_RX0_9 (mvX3_init l G (a := z + 2) (z := z + 2 + 1) (by omega) xv_up_eq) rfl ⟨(Nat.le_of_ble_eq_true rfl), (Nat.le_of_ble_eq_true rfl)⟩ (Nat.le_of_ble_eq_true rfl) ⟨by decide, by decide⟩ rfl dX0_init_20 ?_
  have hq1 : ∀ (w9 : xv_W) (f9 : va_E), w9 a = some f9 → xv_kQ G (xv_up w9 (z + 2) (.inr (3, [.null, .int 0]))) (z + 2) (z + 2 + 1) a = some f9 := fun w9 f9 h9 => by unfold xv_kQ; rw [if_neg (by omega), if_neg (by omega), xv_up_ne (by omega)]; exact h9
  refine xv_put C hin (hq1 _ _ xv_up_eq) fi_RX0_16 ⟨_, rfl, (by decide +kernel : _ = some (.object "WaterFibers$Queue")), rfl⟩ rfl rfl (by simp) dX0_init_23 ?_
  refine xv_aload_n C dX0_init_26 rfl ?_
  refine xv_new C nw_RX0_7 (by decide) (by decide) dX0_init_27 ?_
  refine xv_dup C dX0_init_30 rfl ?_
  refine xv_call (st := [.ref (z + 4), .ref a]) C [] ci_RX0_9 (mvX3_init l G (a := z + 4) (z := z + 4 + 1) (by omega) xv_up_eq) rfl ⟨(Nat.le_of_ble_eq_true rfl), (Nat.le_of_ble_eq_true rfl)⟩ (Nat.le_of_ble_eq_true rfl) ⟨by decide, by decide⟩ rfl dX0_init_31 ?_
  have hq2 : ∀ (w9 : xv_W) (f9 : va_E), w9 a = some f9 → xv_kQ G (xv_up w9 (z + 4) (.inr (3, [.null, .int 0]))) (z + 4) (z + 4 + 1) a = some f9 := fun w9 f9 h9 => by unfold xv_kQ; rw [if_neg (by omega), if_neg (by omega), xv_up_ne (by omega)]; exact h9
  refine xv_put C hin (hq2 _ _ xv_up_eq) fi_RX0_19 ⟨_, rfl, (by decide +kernel : _ = some (.object "WaterFibers$Queue")), rfl⟩ rfl rfl (by simp) dX0_init_34 ?_
  have hW : ∀ H, xv_H G (xv_up (xv_kQ G (xv_up (xv_up (xv_kQ G (xv_up (xv_up (xv_kQ G (xv_up w z (.inr (3, [.null, .int 0]))) z (z + 1)) a (.inr (0, [.int 0, .ref z, .null, .null]))) (z + 2) (.inr (3, [.null, .int 0]))) (z + 2) (z + 2 + 1)) a (.inr (0, [.int 0, .ref z, .ref (z + 2), .null]))) (z + 4) (.inr (3, [.null, .int 0]))) (z + 4) (z + 4 + 1)) a (.inr (0, [.int 0, .ref z, .ref (z + 2), .ref (z + 4)]))) (z + 6) H → xv_H G (xv_kC G w a z) (z + 6) H := by
    intro H h
    have e : xv_up (xv_kQ G (xv_up (xv_up (xv_kQ G (xv_up (xv_up (xv_kQ G (xv_up w z (.inr (3, [.null, .int 0]))) z (z + 1)) a (.inr (0, [.int 0, .ref z, .null, .null]))) (z + 2) (.inr (3, [.null, .int 0]))) (z + 2) (z + 2 + 1)) a (.inr (0, [.int 0, .ref z, .ref (z + 2), .null]))) (z + 4) (.inr (3, [.null, .int 0]))) (z + 4) (z + 4 + 1)) a (.inr (0, [.int 0, .ref z, .ref (z + 2), .ref (z + 4)])) = xv_kC G w a z := by
      funext x
      unfold xv_kC xv_up xv_kQ
      dsimp only
      repeat' split
      all_goals first | rfl | omega
    rw [e] at h
    exact h
  refine xv_eqH hW ?_
  exact xv_vret C hr (by decide) (by decide) dX0_init_37
theorem fi_RX2_26 : xw_fl RX2 26 2 0 := ⟨_, rfl, by decide, rfl, lw_g_in (by decide +kernel) (by decide +kernel)⟩
theorem fi_RX2_9 : xw_fl RX2 9 2 1 := ⟨_, rfl, by decide, rfl, lw_g_in (by decide +kernel) (by decide +kernel)⟩
theorem fi_RX2_17 : xw_fl RX2 17 2 8 := ⟨_, rfl, by decide, rfl, lw_g_in (by decide +kernel) (by decide +kernel)⟩
theorem fi_RX2_22 : xw_fl RX2 22 2 9 := ⟨_, rfl, by decide, rfl, lw_g_in (by decide +kernel) (by decide +kernel)⟩
set_option maxHeartbeats 4000000 in
set_option maxRecDepth 100000 in
theorem mvX2_loop {p : Program} {l : Launch} {e : Env} {s : State} {m : MethodId} {args : Array Value} {below : List Frame} {meth : Method} {c : Code} {G : xw_G} (C : xv_C p s m args meth c G RX2 cX2_init 3) (hr : meth.sig.returnType = none) {w : xv_W} {a z : Nat} {num : Int32} (ha : a < z) : ∀ (n i : Nat), i ≤ 12 → 12 < i + n → xv_X p l e { frames := 2, cells := 14, slots := 64, locals := 40 } s m args below meth c G 3 (2 + i) (16 + 4 * i) (MQ below (xv_Q G (xv_kF G num w a z 12) (z + 14)) args s 14 64 (xg_B G)) (xv_H G (xv_kF G num w a z (i)) (z + 2 + i)) [some (.ref a), some (.int num), some (.int (nI (i)))] 36 [] := by
  intro n
  induction n with
  | zero => intro i h1 h2; omega
  | succ n ih =>
    intro i hi hn
    refine xv_iload_n C dX2_init_36 rfl ?_
    refine xv_aload_n C dX2_init_37 rfl ?_
    have hz : xv_kF G num w a z i z = some (xv_Ar G 3 12 (z + 2) 1 i) := by unfold xv_kF; rw [if_neg (by omega), if_pos rfl]
    have hfa : xv_kF G num w a z i a = some (xv_Fb num z) := by unfold xv_kF; rw [if_pos rfl]
    refine xv_get C hfa fi_RX2_17 rfl dX2_init_38 ?_
    refine xv_alen (t := 3) (v := 12) C hz rfl (by decide) dX2_init_41 ?_
    refine xv_icmp_ge (tgt := 64) C dX2_init_42 (by decide) (fun cc9 => ?_) (fun cc9 => ?_)
    · have h12 : i = 12 := by
        rcases Nat.lt_or_ge i 12 with q | q
        · exact absurd cc9 (nI_ge q (by decide))
        · omega
      subst h12
      exact xv_vret C hr (by decide) (by decide) dX2_init_64
    · have hlt : i < 12 := by
        rcases Nat.lt_or_ge i 12 with q | q
        · exact q
        · exact absurd (nI_le (show 12 ≤ i by omega) (by omega)) cc9
      refine xv_aload_n C dX2_init_45 rfl ?_
      refine xv_get C hfa fi_RX2_17 rfl dX2_init_46 ?_
      refine xv_iload_n C dX2_init_49 rfl ?_
      refine xv_new C nw_RX2_15 (by show 2 + i + 1 ≤ 14; omega) (by show 16 + 4 * i + 4 ≤ 64; omega) dX2_init_50 ?_
      refine xv_dup C dX2_init_53 rfl ?_
      refine xv_call (st := [.ref (z + 2 + i), .int (nI i), .ref z]) C [] ci_RX2_21 (mvX4_init l G (a := z + 2 + i) (z := z + 2 + i + 1) xv_up_eq) rfl ⟨(Nat.le_of_ble_eq_true rfl), (Nat.le_of_ble_eq_true rfl)⟩ (Nat.le_of_ble_eq_true rfl) ⟨by show 2 + i + 1 + 0 ≤ 14; omega, by show 16 + 4 * i + 4 + 0 ≤ 64; omega⟩ rfl dX2_init_54 ?_
      have hz2 : xv_kS (xv_up (xv_kF G num w a z i) (z + 2 + i) (.inr (4, [.int 0, .int 0, .int 0, .int 0]))) (z + 2 + i) z = some (xv_Ar G 3 12 (z + 2) 1 i) := by unfold xv_kS; rw [if_neg (by omega), xv_up_ne (by omega)]; exact hz
      refine xv_aast (t := 3) (ci := 4) C hz2 rfl (show xv_kS _ (z + 2 + i) (z + 2 + i) = some xv_St by unfold xv_kS; rw [if_pos rfl]) rfl (vp_in_nI hlt (by decide)) dX2_init_57 ?_
      refine xv_eqH (Pr2 := xv_H G (xv_kF G num w a z (i + 1)) (z + 2 + (i + 1))) (fun H h => ?_) ?_
      · rw [nI_clamp (by omega), xv_ArS (by omega)] at h
        have e : xv_up (xv_kS (xv_up (xv_kF G num w a z i) (z + 2 + i) (.inr (4, [.int 0, .int 0, .int 0, .int 0]))) (z + 2 + i)) z (xv_Ar G 3 12 (z + 2) 1 (i + 1)) = xv_kF G num w a z (i + 1) := by
          funext x
          unfold xv_kF xv_up xv_kS
          dsimp only
          repeat' split
          all_goals first | rfl | omega
        rw [e] at h
        exact h
      · refine xv_iinc (v := nI (i + 1)) C dX2_init_58 rfl (nI_1 i) rfl (by decide) ?_
        refine xv_goto (tgt := 36) C dX2_init_61 (by decide) ?_
        refine xv_widen (k := 2 + (i + 1)) (n := 16 + 4 * (i + 1)) (by simp; omega) (by simp; omega) ?_
        exact ih (i + 1) (by omega) (by omega)
set_option maxHeartbeats 4000000 in
set_option maxRecDepth 100000 in
theorem mvX2_init (l : Launch) (G : xw_G) {w : xv_W} {a z : Nat} {num : Int32} (ha : a < z) (hw : w a = some (.inr (2, [.int 0, .int 0, .int 0, .int 0, .int 0, .int 0, .int 0, .int 0, .null, .null]))) : xv_M l G yX2_init cX2_init 3 2 40 14 64 [.ref a, .int num] w z (xv_kF G num w a z 12) (z + 14) := by
  refine xv_of (by decide +kernel) rfl rfl (Nat.le_of_ble_eq_true rfl) ?_
  intro p e s m args below meth c C hr hin
  have C : xv_C p s m args meth c G RX2 cX2_init 3 := C
  show xv_X p l e { frames := 2, cells := 14, slots := 64, locals := 40 } s m args below meth c G 3 0 0 (MQ below (xv_Q G (xv_kF G num w a z 12) (z + 14)) args s 14 64 (xg_B G)) (xv_H G w z) [some (.ref a), some (.int num), none] 0 []
  refine xv_aload_n C dX2_init_0 rfl ?_
  refine xv_obj C ⟨lw_g_in (by decide +kernel) (by decide +kernel), lw_g_in (by decide +kernel) (by decide +kernel), lw_g_in (by decide +kernel) (by decide +kernel)⟩ dX2_init_1 (Nat.le_of_ble_eq_true rfl) (Nat.le_of_ble_eq_true rfl) ?_
  refine xv_aload_n C dX2_init_4 rfl ?_
  refine xv_iconst (v := 5) C dX2_init_5 (by decide) ?_
  refine xv_put C hin hw fi_RX2_9 ⟨_, rfl, (by decide +kernel : _ = some .int), rfl⟩ rfl rfl (by simp) dX2_init_6 ?_
  refine xv_aload_n C dX2_init_9 rfl ?_
  refine xv_bipush (v := 12) C dX2_init_10 (by decide) ?_
  refine xv_newr (t := 3) (n := 12) C rfl C.2.2.2.2.2.2.1.2.2.2.1 (by decide) (by decide) (by decide) (by decide) (by decide) (lw_g_in (by decide +kernel) (by decide +kernel)) dX2_init_12 ?_
  refine xv_put C hin (by rw [xv_up_ne (by omega)]; exact xv_up_eq) fi_RX2_17 ⟨_, rfl, (by decide +kernel : _ = some (.array (.object "WaterFibers$Step"))), rfl⟩ rfl rfl (by simp) dX2_init_15 ?_
  refine xv_aload_n C dX2_init_18 rfl ?_
  refine xv_new C nw_RX2_15 (by decide) (by decide) dX2_init_19 ?_
  refine xv_dup C dX2_init_22 rfl ?_
  refine xv_call (st := [.ref (z + 1), .ref a]) C [] ci_RX2_21 (mvX4_init l G (a := z + 1) (z := z + 1 + 1) xv_up_eq) rfl ⟨(Nat.le_of_ble_eq_true rfl), (Nat.le_of_ble_eq_true rfl)⟩ (Nat.le_of_ble_eq_true rfl) ⟨by decide, by decide⟩ rfl dX2_init_23 ?_
  have hq : ∀ (w9 : xv_W) (f9 : va_E), w9 a = some f9 → xv_kS (xv_up w9 (z + 1) (.inr (4, [.int 0, .int 0, .int 0, .int 0]))) (z + 1) a = some f9 := fun w9 f9 h9 => by unfold xv_kS; rw [if_neg (by omega), xv_up_ne (by omega)]; exact h9
  refine xv_put C hin (hq _ _ xv_up_eq) fi_RX2_22 ⟨_, rfl, (by decide +kernel : _ = some (.object "WaterFibers$Step")), rfl⟩ rfl rfl (by simp) dX2_init_26 ?_
  refine xv_aload_n C dX2_init_29 rfl ?_
  refine xv_iload_n C dX2_init_30 rfl ?_
  refine xv_put C hin xv_up_eq fi_RX2_26 ⟨_, rfl, (by decide +kernel : _ = some .int), rfl⟩ rfl rfl (by simp) dX2_init_31 ?_
  refine xv_iconst (v := 0) C dX2_init_34 (by decide) ?_
  refine xv_istore_n C dX2_init_35 rfl (by decide) ?_
  refine xv_eqH (Pr2 := xv_H G (xv_kF G num w a z 0) (z + 2 + 0)) (fun H h => ?_) ?_
  · rw [xv_Ar0 (b := z + 2) (k := 1)] at h
    have e : xv_up (xv_up (xv_kS (xv_up (xv_up (xv_up (xv_up w a (.inr (2, [.int 0, .int 5, .int 0, .int 0, .int 0, .int 0, .int 0, .int 0, .null, .null]))) z (xv_Ar G 3 12 (z + 2) 1 0)) a (.inr (2, [.int 0, .int 5, .int 0, .int 0, .int 0, .int 0, .int 0, .int 0, .ref z, .null]))) (z + 1) (.inr (4, [.int 0, .int 0, .int 0, .int 0]))) (z + 1)) a (.inr (2, [.int 0, .int 5, .int 0, .int 0, .int 0, .int 0, .int 0, .int 0, .ref z, .ref (z + 1)]))) a (.inr (2, [.int num, .int 5, .int 0, .int 0, .int 0, .int 0, .int 0, .int 0, .ref z, .ref (z + 1)])) = xv_kF G num w a z 0 := by
      funext x
      unfold xv_kF xv_up xv_kS
      dsimp only
      repeat' split
      all_goals first | rfl | omega
    have h : xv_H G _ (z + 2 + 0) H := h
    rw [← e]
    exact h
  · exact mvX2_loop C hr ha 13 0 (by omega) (by omega)
