set_option maxRecDepth 20000 in
theorem fl_RX3_9 : xw_fl RX3 9 3 0 := ⟨_, rfl, by decide, rfl, lw_g_in (by decide +kernel) (by decide +kernel)⟩
set_option maxRecDepth 20000 in
theorem fl_RX3_15 : xw_fl RX3 15 3 1 := ⟨_, rfl, by decide, rfl, lw_g_in (by decide +kernel) (by decide +kernel)⟩
set_option maxRecDepth 20000 in
theorem fl_RX4_9 : xw_fl RX4 9 4 0 := ⟨_, rfl, by decide, rfl, lw_g_in (by decide +kernel) (by decide +kernel)⟩
set_option maxRecDepth 20000 in
theorem fl_RX4_15 : xw_fl RX4 15 4 1 := ⟨_, rfl, by decide, rfl, lw_g_in (by decide +kernel) (by decide +kernel)⟩
set_option maxRecDepth 20000 in
theorem fl_RX4_18 : xw_fl RX4 18 4 2 := ⟨_, rfl, by decide, rfl, lw_g_in (by decide +kernel) (by decide +kernel)⟩
set_option maxRecDepth 20000 in
theorem fl_RX4_21 : xw_fl RX4 21 4 3 := ⟨_, rfl, by decide, rfl, lw_g_in (by decide +kernel) (by decide +kernel)⟩
set_option maxRecDepth 20000 in
theorem pf_3_1 : xw_pf 3 1 := ⟨⟨_, rfl, rfl, by decide +kernel⟩, by decide, fun _ _ _ _ => ⟨rfl, by simp [xw_fs]⟩⟩
set_option maxRecDepth 20000 in
theorem pf_4_0 : xw_pf 4 0 := ⟨⟨_, rfl, rfl, by decide +kernel⟩, by decide, fun _ _ _ _ => ⟨rfl, by simp [xw_fs]⟩⟩
set_option maxRecDepth 20000 in
theorem pf_4_1 : xw_pf 4 1 := ⟨⟨_, rfl, rfl, by decide +kernel⟩, by decide, fun _ _ _ _ => ⟨rfl, by simp [xw_fs]⟩⟩
set_option maxRecDepth 20000 in
theorem pf_4_2 : xw_pf 4 2 := ⟨⟨_, rfl, rfl, by decide +kernel⟩, by decide, fun _ _ _ _ => ⟨rfl, by simp [xw_fs]⟩⟩
set_option maxRecDepth 20000 in
theorem pf_4_3 : xw_pf 4 3 := ⟨⟨_, rfl, rfl, by decide +kernel⟩, by decide, fun _ _ _ _ => ⟨rfl, by simp [xw_fs]⟩⟩
set_option maxRecDepth 20000 in
theorem kp_3_0 {k : Nat} (hk : xw_kd k = 3) : xw_kd (k + 1) = 7 := (show ∀ k, k < 358 → xw_kd k = 3 → xw_kd (k + 1) = 7 by decide +kernel) k (xw_lt hk (by decide)) hk
set_option maxRecDepth 20000 in
theorem cv_RX3_19 : xw_cv RX3 19 3 yX3_look cX3_look 2 (some .int) 1 := ⟨by decide +kernel, ⟨_, rfl, rfl⟩, by decide +kernel, by decide +kernel, by decide +kernel⟩
