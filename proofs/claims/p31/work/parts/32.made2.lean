theorem fi_RX5_10 : xw_fl RX5 10 5 0 := ⟨_, rfl, by decide, rfl, lw_g_in (by decide +kernel) (by decide +kernel)⟩
theorem fi_RX5_16 : xw_fl RX5 16 5 1 := ⟨_, rfl, by decide, rfl, lw_g_in (by decide +kernel) (by decide +kernel)⟩
theorem xv_up_mv {w : xv_W} {a b : Nat} {e1 e2 e3 : va_E} (h : b ≠ a) : xv_up (xv_up (xv_up w a e1) b e2) a e3 = xv_up (xv_up w b e2) a e3 := by
  funext x
  by_cases hx : x = a
  · rw [hx, xv_up_eq, xv_up_eq]
  · rw [xv_up_ne hx, xv_up_ne hx]
    by_cases h2 : x = b
    · rw [h2, xv_up_eq, xv_up_eq]
    · rw [xv_up_ne h2, xv_up_ne h2, xv_up_ne hx]
/-- a clock's block, by addresses -/
def xv_bK (G : xw_G) (w : xv_W) (y : Nat) : xv_W := fun x => if y ≤ x ∧ x < y + 175 then xv_kK G (fun _ => none) y (y + 1) 4 8 x else w x
theorem xv_bK_eq {G : xw_G} {w : xv_W} {y : Nat} {b : va_E} : xv_kK G (xv_up w y b) y (y + 1) 4 8 = xv_bK G w y := by
  funext x
  unfold xv_kK xv_bK xv_up
  unfold xv_kK
  by_cases h : y ≤ x ∧ x < y + 175
  · rw [if_pos h]
    repeat' split
    all_goals first | rfl | omega
  · rw [if_neg h]
    repeat' split
    all_goals first | rfl | omega
def xv_kW (G : xw_G) (w : xv_W) (a z : Nat) : xv_W := fun x => if x = a then some (.inr (5, [.ref z, .ref (z + 175)])) else if z ≤ x ∧ x < z + 175 then xv_kK G (fun _ => none) z (z + 1) 4 8 x else if z + 175 ≤ x ∧ x < z + 350 then xv_kK G (fun _ => none) (z + 175) (z + 176) 4 8 x else w x
abbrev xv_IA (G : xw_G) (n : Nat) : va_E := .inl (xg_T G 0, n, .inl (fun _ => 0))
set_option maxHeartbeats 4000000 in
set_option maxRecDepth 100000 in
theorem mvX5_init (l : Launch) (G : xw_G) {w : xv_W} {a z : Nat} (ha : a < z) (hw : w a = some (.inr (5, [.null, .null]))) : xv_M l G yX5_init cX5_init 1 4 83 350 1734 [.ref a] w z (xv_kW G w a z) (z + 350) := by
  refine xv_of (by decide +kernel) rfl rfl (Nat.le_of_ble_eq_true rfl) ?_
  intro p e s m args below meth c C hr hin
  have C : xv_C p s m args meth c G RX5 cX5_init 1 := C
  show xv_X p l e { frames := 4, cells := 350, slots := 1734, locals := 83 } s m args below meth c G 1 0 0 (MQ below (xv_Q G (xv_kW G w a z) (z + 350)) args s 350 1734 (xg_B G)) (xv_H G w z) [some (.ref a)] 0 []
  refine xv_aload_n C dX5_init_0 rfl ?_
  refine xv_obj C ⟨lw_g_in (by decide +kernel) (by decide +kernel), lw_g_in (by decide +kernel) (by decide +kernel), lw_g_in (by decide +kernel) (by decide +kernel)⟩ dX5_init_1 (Nat.le_of_ble_eq_true rfl) (Nat.le_of_ble_eq_true rfl) ?_
  refine xv_aload_n C dX5_init_4 rfl ?_
  refine xv_new C nw_RX5_7 (by decide) (by decide) dX5_init_5 ?_
  refine xv_dup C dX5_init_8 rfl ?_
  refine xv_call (st := [.ref (z), .ref a]) C [] ci_RX5_9 (mvX1_init l G (a := z) (z := z + 1) (by omega) xv_up_eq) rfl ⟨(Nat.le_of_ble_eq_true rfl), (Nat.le_of_ble_eq_true rfl)⟩ (Nat.le_of_ble_eq_true rfl) ⟨by decide, by decide⟩ rfl dX5_init_9 ?_
  rw [xv_bK_eq]
  refine xv_put C hin (show xv_bK G w (z) a = some (.inr (5, [.null, .null])) by unfold xv_bK; rw [if_neg (by omega)]; exact hw) fi_RX5_10 ⟨_, rfl, (by decide +kernel : _ = some (.object "WaterFibers$Clock")), rfl⟩ rfl rfl (by simp) dX5_init_12 ?_
  refine xv_aload_n C dX5_init_15 rfl ?_
  refine xv_new C nw_RX5_7 (by decide) (by decide) dX5_init_16 ?_
  refine xv_dup C dX5_init_19 rfl ?_
  refine xv_call (st := [.ref (z + 175), .ref a]) C [] ci_RX5_9 (mvX1_init l G (a := z + 175) (z := z + 175 + 1) (by omega) xv_up_eq) rfl ⟨(Nat.le_of_ble_eq_true rfl), (Nat.le_of_ble_eq_true rfl)⟩ (Nat.le_of_ble_eq_true rfl) ⟨by decide, by decide⟩ rfl dX5_init_20 ?_
  rw [xv_bK_eq]
  refine xv_put C hin (show xv_bK G (xv_up _ a (.inr (5, [.ref z, .null]))) (z + 175) a = some (.inr (5, [.ref z, .null])) by unfold xv_bK; rw [if_neg (by omega)]; exact xv_up_eq) fi_RX5_16 ⟨_, rfl, (by decide +kernel : _ = some (.object "WaterFibers$Clock")), rfl⟩ rfl rfl (by simp) dX5_init_23 ?_
  refine xv_eqH (Pr2 := xv_H G (xv_kW G w a z) (z + 350)) (fun H h => ?_) ?_
  · have e : xv_up (xv_bK G (xv_up (xv_bK G w z) a (.inr (5, [.ref z, .null]))) (z + 175)) a (.inr (5, [.ref z, .ref (z + 175)])) = xv_kW G w a z := by
      funext x
      unfold xv_kW xv_up xv_bK
      dsimp only
      repeat' split
      all_goals first | rfl | omega
    rw [← e]
    exact h
  · exact xv_vret C hr (by decide) (by decide) dX5_init_26
