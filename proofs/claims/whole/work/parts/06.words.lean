set_option maxRecDepth 20000 in
theorem fl_RX0_10 : xw_fl RX0 10 0 1 := ⟨_, rfl, by decide, rfl, lw_g_in (by decide +kernel) (by decide +kernel)⟩
set_option maxRecDepth 20000 in
theorem fl_RX0_16 : xw_fl RX0 16 0 2 := ⟨_, rfl, by decide, rfl, lw_g_in (by decide +kernel) (by decide +kernel)⟩
set_option maxRecDepth 20000 in
theorem fl_RX0_19 : xw_fl RX0 19 0 3 := ⟨_, rfl, by decide, rfl, lw_g_in (by decide +kernel) (by decide +kernel)⟩
set_option maxRecDepth 20000 in
theorem fl_RX0_22 : xw_fl RX0 22 3 1 := ⟨_, rfl, by decide, rfl, lw_g_in (by decide +kernel) (by decide +kernel)⟩
set_option maxRecDepth 20000 in
theorem fl_RX0_26 : xw_fl RX0 26 0 0 := ⟨_, rfl, by decide, rfl, lw_g_in (by decide +kernel) (by decide +kernel)⟩
set_option maxRecDepth 20000 in
theorem fl_RX1_11 : xw_fl RX1 11 1 0 := ⟨_, rfl, by decide, rfl, lw_g_in (by decide +kernel) (by decide +kernel)⟩
set_option maxRecDepth 20000 in
theorem fl_RX1_19 : xw_fl RX1 19 1 1 := ⟨_, rfl, by decide, rfl, lw_g_in (by decide +kernel) (by decide +kernel)⟩
set_option maxRecDepth 20000 in
theorem fl_RX1_24 : xw_fl RX1 24 1 2 := ⟨_, rfl, by decide, rfl, lw_g_in (by decide +kernel) (by decide +kernel)⟩
set_option maxRecDepth 20000 in
theorem fl_RX1_31 : xw_fl RX1 31 1 3 := ⟨_, rfl, by decide, rfl, lw_g_in (by decide +kernel) (by decide +kernel)⟩
set_option maxRecDepth 20000 in
theorem fl_RX1_38 : xw_fl RX1 38 1 4 := ⟨_, rfl, by decide, rfl, lw_g_in (by decide +kernel) (by decide +kernel)⟩
set_option maxRecDepth 20000 in
theorem fl_RX1_42 : xw_fl RX1 42 1 5 := ⟨_, rfl, by decide, rfl, lw_g_in (by decide +kernel) (by decide +kernel)⟩
set_option maxRecDepth 20000 in
theorem fl_RX1_46 : xw_fl RX1 46 1 6 := ⟨_, rfl, by decide, rfl, lw_g_in (by decide +kernel) (by decide +kernel)⟩
set_option maxRecDepth 20000 in
theorem fl_RX1_49 : xw_fl RX1 49 1 7 := ⟨_, rfl, by decide, rfl, lw_g_in (by decide +kernel) (by decide +kernel)⟩
set_option maxRecDepth 20000 in
theorem fl_RX1_52 : xw_fl RX1 52 1 8 := ⟨_, rfl, by decide, rfl, lw_g_in (by decide +kernel) (by decide +kernel)⟩
set_option maxRecDepth 20000 in
theorem fl_RX1_73 : xw_fl RX1 73 2 1 := ⟨_, rfl, by decide, rfl, lw_g_in (by decide +kernel) (by decide +kernel)⟩
set_option maxRecDepth 20000 in
theorem fl_RX1_83 : xw_fl RX1 83 3 1 := ⟨_, rfl, by decide, rfl, lw_g_in (by decide +kernel) (by decide +kernel)⟩
set_option maxRecDepth 20000 in
theorem fl_RX1_89 : xw_fl RX1 89 2 5 := ⟨_, rfl, by decide, rfl, lw_g_in (by decide +kernel) (by decide +kernel)⟩
set_option maxRecDepth 20000 in
theorem fl_RX1_103 : xw_fl RX1 103 2 0 := ⟨_, rfl, by decide, rfl, lw_g_in (by decide +kernel) (by decide +kernel)⟩
set_option maxRecDepth 20000 in
theorem fl_RX1_109 : xw_fl RX1 109 2 6 := ⟨_, rfl, by decide, rfl, lw_g_in (by decide +kernel) (by decide +kernel)⟩
set_option maxRecDepth 20000 in
theorem fl_RX1_115 : xw_fl RX1 115 2 2 := ⟨_, rfl, by decide, rfl, lw_g_in (by decide +kernel) (by decide +kernel)⟩
set_option maxRecDepth 20000 in
theorem fl_RX1_122 : xw_fl RX1 122 4 0 := ⟨_, rfl, by decide, rfl, lw_g_in (by decide +kernel) (by decide +kernel)⟩
set_option maxRecDepth 20000 in
theorem fl_RX1_127 : xw_fl RX1 127 4 1 := ⟨_, rfl, by decide, rfl, lw_g_in (by decide +kernel) (by decide +kernel)⟩
set_option maxRecDepth 20000 in
theorem fl_RX1_130 : xw_fl RX1 130 4 2 := ⟨_, rfl, by decide, rfl, lw_g_in (by decide +kernel) (by decide +kernel)⟩
set_option maxRecDepth 20000 in
theorem fl_RX1_137 : xw_fl RX1 137 2 3 := ⟨_, rfl, by decide, rfl, lw_g_in (by decide +kernel) (by decide +kernel)⟩
set_option maxRecDepth 20000 in
theorem fl_RX1_157 : xw_fl RX1 157 0 1 := ⟨_, rfl, by decide, rfl, lw_g_in (by decide +kernel) (by decide +kernel)⟩
set_option maxRecDepth 20000 in
theorem fl_RX1_160 : xw_fl RX1 160 0 3 := ⟨_, rfl, by decide, rfl, lw_g_in (by decide +kernel) (by decide +kernel)⟩
set_option maxRecDepth 20000 in
theorem fl_RX1_166 : xw_fl RX1 166 0 2 := ⟨_, rfl, by decide, rfl, lw_g_in (by decide +kernel) (by decide +kernel)⟩
set_option maxRecDepth 20000 in
theorem fl_RX2_9 : xw_fl RX2 9 2 1 := ⟨_, rfl, by decide, rfl, lw_g_in (by decide +kernel) (by decide +kernel)⟩
set_option maxRecDepth 20000 in
theorem fl_RX2_17 : xw_fl RX2 17 2 8 := ⟨_, rfl, by decide, rfl, lw_g_in (by decide +kernel) (by decide +kernel)⟩
set_option maxRecDepth 20000 in
theorem fl_RX2_22 : xw_fl RX2 22 2 9 := ⟨_, rfl, by decide, rfl, lw_g_in (by decide +kernel) (by decide +kernel)⟩
set_option maxRecDepth 20000 in
theorem fl_RX2_29 : xw_fl RX2 29 2 2 := ⟨_, rfl, by decide, rfl, lw_g_in (by decide +kernel) (by decide +kernel)⟩
set_option maxRecDepth 20000 in
theorem fl_RX2_32 : xw_fl RX2 32 2 7 := ⟨_, rfl, by decide, rfl, lw_g_in (by decide +kernel) (by decide +kernel)⟩
set_option maxRecDepth 20000 in
theorem fl_RX2_35 : xw_fl RX2 35 2 4 := ⟨_, rfl, by decide, rfl, lw_g_in (by decide +kernel) (by decide +kernel)⟩
set_option maxRecDepth 20000 in
theorem fl_RX2_38 : xw_fl RX2 38 4 3 := ⟨_, rfl, by decide, rfl, lw_g_in (by decide +kernel) (by decide +kernel)⟩
set_option maxRecDepth 20000 in
theorem fl_RX2_41 : xw_fl RX2 41 4 2 := ⟨_, rfl, by decide, rfl, lw_g_in (by decide +kernel) (by decide +kernel)⟩
set_option maxRecDepth 20000 in
theorem fl_RX2_44 : xw_fl RX2 44 4 1 := ⟨_, rfl, by decide, rfl, lw_g_in (by decide +kernel) (by decide +kernel)⟩
set_option maxRecDepth 20000 in
theorem fl_RX2_50 : xw_fl RX2 50 2 3 := ⟨_, rfl, by decide, rfl, lw_g_in (by decide +kernel) (by decide +kernel)⟩
set_option maxRecDepth 20000 in
theorem fl_RX2_53 : xw_fl RX2 53 2 5 := ⟨_, rfl, by decide, rfl, lw_g_in (by decide +kernel) (by decide +kernel)⟩
set_option maxRecDepth 20000 in
theorem fl_RX2_56 : xw_fl RX2 56 2 6 := ⟨_, rfl, by decide, rfl, lw_g_in (by decide +kernel) (by decide +kernel)⟩
set_option maxRecDepth 20000 in
theorem fl_RX3_9 : xw_fl RX3 9 3 0 := ⟨_, rfl, by decide, rfl, lw_g_in (by decide +kernel) (by decide +kernel)⟩
set_option maxRecDepth 20000 in
theorem fl_RX3_15 : xw_fl RX3 15 3 1 := ⟨_, rfl, by decide, rfl, lw_g_in (by decide +kernel) (by decide +kernel)⟩
set_option maxRecDepth 20000 in
theorem fl_RX4_9 : xw_fl RX4 9 4 0 := ⟨_, rfl, by decide, rfl, lw_g_in (by decide +kernel) (by decide +kernel)⟩
set_option maxRecDepth 20000 in
theorem fl_RX4_15 : xw_fl RX4 15 4 1 := ⟨_, rfl, by decide, rfl, lw_g_in (by decide +kernel) (by decide +kernel)⟩
set_option maxRecDepth 20000 in
theorem fl_RX4_18 : xw_fl RX4 18 4 2 := ⟨_, rfl, by decide, rfl, lw_g_in (by decide +kernel) (by decide +kernel)⟩
set_option maxRecDepth 20000 in
theorem fl_RX4_21 : xw_fl RX4 21 4 3 := ⟨_, rfl, by decide, rfl, lw_g_in (by decide +kernel) (by decide +kernel)⟩
set_option maxRecDepth 20000 in
theorem fl_RX5_10 : xw_fl RX5 10 5 0 := ⟨_, rfl, by decide, rfl, lw_g_in (by decide +kernel) (by decide +kernel)⟩
set_option maxRecDepth 20000 in
theorem fl_RX5_16 : xw_fl RX5 16 5 1 := ⟨_, rfl, by decide, rfl, lw_g_in (by decide +kernel) (by decide +kernel)⟩
set_option maxRecDepth 20000 in
theorem fl_RX5_26 : xw_fl RX5 26 1 5 := ⟨_, rfl, by decide, rfl, lw_g_in (by decide +kernel) (by decide +kernel)⟩
set_option maxRecDepth 20000 in
theorem fl_RX5_44 : xw_fl RX5 44 1 6 := ⟨_, rfl, by decide, rfl, lw_g_in (by decide +kernel) (by decide +kernel)⟩
set_option maxRecDepth 20000 in
theorem fl_RX5_63 : xw_fl RX5 63 2 7 := ⟨_, rfl, by decide, rfl, lw_g_in (by decide +kernel) (by decide +kernel)⟩
set_option maxRecDepth 20000 in
theorem fl_RX5_124 : xw_fl RX5 124 1 8 := ⟨_, rfl, by decide, rfl, lw_g_in (by decide +kernel) (by decide +kernel)⟩
set_option maxRecDepth 20000 in
theorem fl_RX5_130 : xw_fl RX5 130 1 7 := ⟨_, rfl, by decide, rfl, lw_g_in (by decide +kernel) (by decide +kernel)⟩
set_option maxRecDepth 20000 in
theorem fl_RX5_137 : xw_fl RX5 137 1 4 := ⟨_, rfl, by decide, rfl, lw_g_in (by decide +kernel) (by decide +kernel)⟩
set_option maxRecDepth 20000 in
theorem fl_RX6_9 : xw_fl RX6 9 6 3 := ⟨_, rfl, by decide, rfl, lw_g_in (by decide +kernel) (by decide +kernel)⟩
set_option maxRecDepth 20000 in
theorem fl_RX6_13 : xw_fl RX6 13 6 4 := ⟨_, rfl, by decide, rfl, lw_g_in (by decide +kernel) (by decide +kernel)⟩
set_option maxRecDepth 20000 in
theorem fl_RX6_16 : xw_fl RX6 16 6 5 := ⟨_, rfl, by decide, rfl, lw_g_in (by decide +kernel) (by decide +kernel)⟩
set_option maxRecDepth 20000 in
theorem fl_RX6_19 : xw_fl RX6 19 6 6 := ⟨_, rfl, by decide, rfl, lw_g_in (by decide +kernel) (by decide +kernel)⟩
set_option maxRecDepth 20000 in
theorem fl_RX6_22 : xw_fl RX6 22 6 7 := ⟨_, rfl, by decide, rfl, lw_g_in (by decide +kernel) (by decide +kernel)⟩
set_option maxRecDepth 20000 in
theorem fl_RX6_25 : xw_fl RX6 25 6 8 := ⟨_, rfl, by decide, rfl, lw_g_in (by decide +kernel) (by decide +kernel)⟩
set_option maxRecDepth 20000 in
theorem fl_RX6_28 : xw_fl RX6 28 6 0 := ⟨_, rfl, by decide, rfl, lw_g_in (by decide +kernel) (by decide +kernel)⟩
set_option maxRecDepth 20000 in
theorem fl_RX6_32 : xw_fl RX6 32 6 1 := ⟨_, rfl, by decide, rfl, lw_g_in (by decide +kernel) (by decide +kernel)⟩
set_option maxRecDepth 20000 in
theorem fl_RX6_39 : xw_fl RX6 39 6 2 := ⟨_, rfl, by decide, rfl, lw_g_in (by decide +kernel) (by decide +kernel)⟩
set_option maxRecDepth 20000 in
theorem pf_0_0 : xw_pf 0 0 := ⟨⟨_, rfl, rfl, by decide +kernel⟩, by decide, fun _ _ _ _ => ⟨rfl, by simp [xw_fs]⟩⟩
set_option maxRecDepth 20000 in
theorem pf_1_5 : xw_pf 1 5 := ⟨⟨_, rfl, rfl, by decide +kernel⟩, by decide, fun _ _ _ _ => ⟨rfl, by simp [xw_fs]⟩⟩
set_option maxRecDepth 20000 in
theorem pf_1_6 : xw_pf 1 6 := ⟨⟨_, rfl, rfl, by decide +kernel⟩, by decide, fun _ _ _ _ => ⟨rfl, by simp [xw_fs]⟩⟩
set_option maxRecDepth 20000 in
theorem pf_1_7 : xw_pf 1 7 := ⟨⟨_, rfl, rfl, by decide +kernel⟩, by decide, fun _ _ _ _ => ⟨rfl, by simp [xw_fs]⟩⟩
set_option maxRecDepth 20000 in
theorem pf_1_8 : xw_pf 1 8 := ⟨⟨_, rfl, rfl, by decide +kernel⟩, by decide, fun _ _ _ _ => ⟨rfl, by simp [xw_fs]⟩⟩
set_option maxRecDepth 20000 in
theorem pf_2_1 : xw_pf 2 1 := ⟨⟨_, rfl, rfl, by decide +kernel⟩, by decide, fun _ _ _ _ => ⟨rfl, by simp [xw_fs]⟩⟩
set_option maxRecDepth 20000 in
theorem pf_2_2 : xw_pf 2 2 := ⟨⟨_, rfl, rfl, by decide +kernel⟩, by decide, fun _ _ _ _ => ⟨rfl, by simp [xw_fs]⟩⟩
set_option maxRecDepth 20000 in
theorem pf_2_3 : xw_pf 2 3 := ⟨⟨_, rfl, rfl, by decide +kernel⟩, by decide, fun _ _ _ _ => ⟨rfl, by simp [xw_fs]⟩⟩
set_option maxRecDepth 20000 in
theorem pf_2_4 : xw_pf 2 4 := ⟨⟨_, rfl, rfl, by decide +kernel⟩, by decide, fun _ _ _ _ => ⟨rfl, by simp [xw_fs]⟩⟩
set_option maxRecDepth 20000 in
theorem pf_2_5 : xw_pf 2 5 := ⟨⟨_, rfl, rfl, by decide +kernel⟩, by decide, fun _ _ _ _ => ⟨rfl, by simp [xw_fs]⟩⟩
set_option maxRecDepth 20000 in
theorem pf_2_6 : xw_pf 2 6 := ⟨⟨_, rfl, rfl, by decide +kernel⟩, by decide, fun _ _ _ _ => ⟨rfl, by simp [xw_fs]⟩⟩
set_option maxRecDepth 20000 in
theorem pf_2_7 : xw_pf 2 7 := ⟨⟨_, rfl, rfl, by decide +kernel⟩, by decide, fun _ _ _ _ => ⟨rfl, by simp [xw_fs]⟩⟩
set_option maxRecDepth 20000 in
theorem pf_3_1 : xw_pf 3 1 := ⟨⟨_, rfl, rfl, by decide +kernel⟩, by decide, fun _ _ _ _ => ⟨rfl, by simp [xw_fs]⟩⟩
set_option maxRecDepth 20000 in
theorem pf_4_0 : xw_pf 4 0 := ⟨⟨_, rfl, rfl, by decide +kernel⟩, by decide, fun _ _ _ _ => ⟨rfl, by simp [xw_fs]⟩⟩
set_option maxRecDepth 20000 in
theorem pf_4_1 : xw_pf 4 1 := ⟨⟨_, rfl, rfl, by decide +kernel⟩, by decide, fun _ _ _ _ => ⟨rfl, by simp [xw_fs]⟩⟩
set_option maxRecDepth 20000 in
theorem pf_4_2 : xw_pf 4 2 := ⟨⟨_, rfl, rfl, by decide +kernel⟩, by decide, fun _ _ _ _ => ⟨rfl, by simp [xw_fs]⟩⟩
set_option maxRecDepth 20000 in
theorem pf_4_3 : xw_pf 4 3 := ⟨⟨_, rfl, rfl, by decide +kernel⟩, by decide, fun _ _ _ _ => ⟨rfl, by simp [xw_fs]⟩⟩
set_option maxRecDepth 20000 in
theorem pf_6_0 : xw_pf 6 0 := ⟨⟨_, rfl, rfl, by decide +kernel⟩, by decide, fun _ _ _ _ => ⟨rfl, by simp [xw_fs]⟩⟩
set_option maxRecDepth 20000 in
theorem pf_6_1 : xw_pf 6 1 := ⟨⟨_, rfl, rfl, by decide +kernel⟩, by decide, fun _ _ _ _ => ⟨rfl, by simp [xw_fs]⟩⟩
set_option maxRecDepth 20000 in
theorem pf_6_2 : xw_pf 6 2 := ⟨⟨_, rfl, rfl, by decide +kernel⟩, by decide, fun _ _ _ _ => ⟨rfl, by simp [xw_fs]⟩⟩
set_option maxRecDepth 20000 in
theorem kp_0_1 {k : Nat} (hk : xw_kd k = 0) : xw_kd (k + 1) = 3 := (show ∀ k, k < 358 → xw_kd k = 0 → xw_kd (k + 1) = 3 by decide +kernel) k (xw_lt hk (by decide)) hk
set_option maxRecDepth 20000 in
theorem kp_0_2 {k : Nat} (hk : xw_kd k = 0) : xw_kd (k + 3) = 3 := (show ∀ k, k < 358 → xw_kd k = 0 → xw_kd (k + 3) = 3 by decide +kernel) k (xw_lt hk (by decide)) hk
set_option maxRecDepth 20000 in
theorem kp_0_3 {k : Nat} (hk : xw_kd k = 0) : xw_kd (k + 5) = 3 := (show ∀ k, k < 358 → xw_kd k = 0 → xw_kd (k + 5) = 3 by decide +kernel) k (xw_lt hk (by decide)) hk
set_option maxRecDepth 20000 in
theorem kp_1_0 {k : Nat} (hk : xw_kd k = 1) : xw_kd (k + 1) = 8 := (show ∀ k, k < 358 → xw_kd k = 1 → xw_kd (k + 1) = 8 by decide +kernel) k (xw_lt hk (by decide)) hk
set_option maxRecDepth 20000 in
theorem kp_1_1 {k : Nat} (hk : xw_kd k = 1) : xw_kd (k + 2) = 9 := (show ∀ k, k < 358 → xw_kd k = 1 → xw_kd (k + 2) = 9 by decide +kernel) k (xw_lt hk (by decide)) hk
set_option maxRecDepth 20000 in
theorem kp_1_2 {k : Nat} (hk : xw_kd k = 1) : xw_kd (k + 33) = 0 := (show ∀ k, k < 358 → xw_kd k = 1 → xw_kd (k + 33) = 0 by decide +kernel) k (xw_lt hk (by decide)) hk
set_option maxRecDepth 20000 in
theorem kp_1_3 {k : Nat} (hk : xw_kd k = 1) : xw_kd (k + 160) = 2 := (show ∀ k, k < 358 → xw_kd k = 1 → xw_kd (k + 160) = 2 by decide +kernel) k (xw_lt hk (by decide)) hk
set_option maxRecDepth 20000 in
theorem kp_1_4 {k : Nat} (hk : xw_kd k = 1) : xw_kd (k + 3) = 3 := (show ∀ k, k < 358 → xw_kd k = 1 → xw_kd (k + 3) = 3 by decide +kernel) k (xw_lt hk (by decide)) hk
set_option maxRecDepth 20000 in
theorem kp_2_8 {k : Nat} (hk : xw_kd k = 2) : xw_kd (k + 1) = 10 := (show ∀ k, k < 358 → xw_kd k = 2 → xw_kd (k + 1) = 10 by decide +kernel) k (xw_lt hk (by decide)) hk
set_option maxRecDepth 20000 in
theorem kp_2_9 {k : Nat} (hk : xw_kd k = 2) : xw_kd (k + 14) = 4 := (show ∀ k, k < 358 → xw_kd k = 2 → xw_kd (k + 14) = 4 by decide +kernel) k (xw_lt hk (by decide)) hk
set_option maxRecDepth 20000 in
theorem kp_3_0 {k : Nat} (hk : xw_kd k = 3) : xw_kd (k + 1) = 7 := (show ∀ k, k < 358 → xw_kd k = 3 → xw_kd (k + 1) = 7 by decide +kernel) k (xw_lt hk (by decide)) hk
set_option maxRecDepth 20000 in
theorem kp_5_0 : xw_kd 0 = 1 := by decide +kernel
set_option maxRecDepth 20000 in
theorem kp_5_1 : xw_kd 175 = 1 := by decide +kernel
set_option maxRecDepth 20000 in
theorem kp_6_3 {k : Nat} (hk : xw_kd k = 6) : xw_kd (k + 1) = 7 := (show ∀ k, k < 358 → xw_kd k = 6 → xw_kd (k + 1) = 7 by decide +kernel) k (xw_lt hk (by decide)) hk
set_option maxRecDepth 20000 in
theorem kp_6_4 {k : Nat} (hk : xw_kd k = 6) : xw_kd (k + 2) = 11 := (show ∀ k, k < 358 → xw_kd k = 6 → xw_kd (k + 2) = 11 by decide +kernel) k (xw_lt hk (by decide)) hk
set_option maxRecDepth 20000 in
theorem kp_6_5 {k : Nat} (hk : xw_kd k = 6) : xw_kd (k + 3) = 11 := (show ∀ k, k < 358 → xw_kd k = 6 → xw_kd (k + 3) = 11 by decide +kernel) k (xw_lt hk (by decide)) hk
set_option maxRecDepth 20000 in
theorem kp_6_6 {k : Nat} (hk : xw_kd k = 6) : xw_kd (k + 4) = 11 := (show ∀ k, k < 358 → xw_kd k = 6 → xw_kd (k + 4) = 11 by decide +kernel) k (xw_lt hk (by decide)) hk
set_option maxRecDepth 20000 in
theorem kp_6_7 {k : Nat} (hk : xw_kd k = 6) : xw_kd (k + 5) = 12 := (show ∀ k, k < 358 → xw_kd k = 6 → xw_kd (k + 5) = 12 by decide +kernel) k (xw_lt hk (by decide)) hk
set_option maxRecDepth 20000 in
theorem kp_6_8 {k : Nat} (hk : xw_kd k = 6) : xw_kd (k + 6) = 12 := (show ∀ k, k < 358 → xw_kd k = 6 → xw_kd (k + 6) = 12 by decide +kernel) k (xw_lt hk (by decide)) hk
set_option maxRecDepth 20000 in
theorem kl_8 {k : Nat} {i : Int32} (hk : xw_kd k = 8) (hi : xo_ix i 4 = true) : xw_kd (xw_el 8 k (Int32.toNatClampNeg i)) = 0 := xw_kel (κ := 8) rfl hk (xo_ix_lt hi)
set_option maxRecDepth 20000 in
theorem kl_9 {k : Nat} {i : Int32} (hk : xw_kd k = 9) (hi : xo_ix i 8 = true) : xw_kd (xw_el 9 k (Int32.toNatClampNeg i)) = 2 := xw_kel (κ := 9) rfl hk (xo_ix_lt hi)
set_option maxRecDepth 20000 in
theorem kl_10 {k : Nat} {i : Int32} (hk : xw_kd k = 10) (hi : xo_ix i 12 = true) : xw_kd (xw_el 10 k (Int32.toNatClampNeg i)) = 4 := xw_kel (κ := 10) rfl hk (xo_ix_lt hi)
set_option maxRecDepth 20000 in
theorem cv_RX0_29 : xw_cv RX0 29 3 yX3_becomeLike cX3_becomeLike 3 none 1 := ⟨by decide +kernel, ⟨_, rfl, rfl⟩, by decide +kernel, by decide +kernel, by decide +kernel⟩
set_option maxRecDepth 20000 in
theorem cv_RX1_55 : xw_cv RX1 55 3 yX3_becomeLike cX3_becomeLike 3 none 1 := ⟨by decide +kernel, ⟨_, rfl, rfl⟩, by decide +kernel, by decide +kernel, by decide +kernel⟩
set_option maxRecDepth 20000 in
theorem cv_RX1_59 : xw_cv RX1 59 1 yX1_channelAt cX1_channelAt 3 (some (.object "WaterFibers$Channel")) 1 := ⟨by decide +kernel, ⟨_, rfl, rfl⟩, by decide +kernel, by decide +kernel, by decide +kernel⟩
set_option maxRecDepth 20000 in
theorem cv_RX1_63 : xw_cv RX1 63 0 yX0_becomeLike cX0_becomeLike 2 none 1 := ⟨by decide +kernel, ⟨_, rfl, rfl⟩, by decide +kernel, by decide +kernel, by decide +kernel⟩
set_option maxRecDepth 20000 in
theorem cv_RX1_66 : xw_cv RX1 66 1 yX1_fiberAt cX1_fiberAt 3 (some (.object "WaterFibers$Fiber")) 1 := ⟨by decide +kernel, ⟨_, rfl, rfl⟩, by decide +kernel, by decide +kernel, by decide +kernel⟩
set_option maxRecDepth 20000 in
theorem cv_RX1_70 : xw_cv RX1 70 2 yX2_becomeLike cX2_becomeLike 3 none 1 := ⟨by decide +kernel, ⟨_, rfl, rfl⟩, by decide +kernel, by decide +kernel, by decide +kernel⟩
set_option maxRecDepth 20000 in
theorem cv_RX1_76 : xw_cv RX1 76 1 yX1_countDone cX1_countDone 3 (some .int) 0 := ⟨by decide +kernel, ⟨_, rfl, rfl⟩, by decide +kernel, by decide +kernel, by decide +kernel⟩
set_option maxRecDepth 20000 in
theorem cv_RX1_80 : xw_cv RX1 80 1 yX1_wakeSleepers cX1_wakeSleepers 3 none 0 := ⟨by decide +kernel, ⟨_, rfl, rfl⟩, by decide +kernel, by decide +kernel, by decide +kernel⟩
set_option maxRecDepth 20000 in
theorem cv_RX1_86 : xw_cv RX1 86 3 yX3_takeFirst cX3_takeFirst 3 (some .int) 0 := ⟨by decide +kernel, ⟨_, rfl, rfl⟩, by decide +kernel, by decide +kernel, by decide +kernel⟩
set_option maxRecDepth 20000 in
theorem cv_RX1_92 : xw_cv RX1 92 2 yX2_hasStepsLeft cX2_hasStepsLeft 1 (some .boolean) 0 := ⟨by decide +kernel, ⟨_, rfl, rfl⟩, by decide +kernel, by decide +kernel, by decide +kernel⟩
set_option maxRecDepth 20000 in
theorem cv_RX1_96 : xw_cv RX1 96 1 yX1_doStep cX1_doStep 3 (some .boolean) 1 := ⟨by decide +kernel, ⟨_, rfl, rfl⟩, by decide +kernel, by decide +kernel, by decide +kernel⟩
set_option maxRecDepth 20000 in
theorem cv_RX1_100 : xw_cv RX1 100 1 yX1_endTurn cX1_endTurn 4 none 1 := ⟨by decide +kernel, ⟨_, rfl, rfl⟩, by decide +kernel, by decide +kernel, by decide +kernel⟩
set_option maxRecDepth 20000 in
theorem cv_RX1_106 : xw_cv RX1 106 3 yX3_addLast cX3_addLast 2 none 1 := ⟨by decide +kernel, ⟨_, rfl, rfl⟩, by decide +kernel, by decide +kernel, by decide +kernel⟩
set_option maxRecDepth 20000 in
theorem cv_RX1_112 : xw_cv RX1 112 1 yX1_makeReady cX1_makeReady 2 none 1 := ⟨by decide +kernel, ⟨_, rfl, rfl⟩, by decide +kernel, by decide +kernel, by decide +kernel⟩
set_option maxRecDepth 20000 in
theorem cv_RX1_118 : xw_cv RX1 118 2 yX2_stepAt cX2_stepAt 3 (some (.object "WaterFibers$Step")) 1 := ⟨by decide +kernel, ⟨_, rfl, rfl⟩, by decide +kernel, by decide +kernel, by decide +kernel⟩
set_option maxRecDepth 20000 in
theorem cv_RX1_133 : xw_cv RX1 133 1 yX1_send cX1_send 5 none 3 := ⟨by decide +kernel, ⟨_, rfl, rfl⟩, by decide +kernel, by decide +kernel, by decide +kernel⟩
set_option maxRecDepth 20000 in
theorem cv_RX1_140 : xw_cv RX1 140 1 yX1_take cX1_take 4 none 2 := ⟨by decide +kernel, ⟨_, rfl, rfl⟩, by decide +kernel, by decide +kernel, by decide +kernel⟩
set_option maxRecDepth 20000 in
theorem cv_RX1_144 : xw_cv RX1 144 2 yX2_moveOn cX2_moveOn 1 none 0 := ⟨by decide +kernel, ⟨_, rfl, rfl⟩, by decide +kernel, by decide +kernel, by decide +kernel⟩
set_option maxRecDepth 20000 in
theorem cv_RX1_147 : xw_cv RX1 147 1 yX1_waitFor cX1_waitFor 3 none 2 := ⟨by decide +kernel, ⟨_, rfl, rfl⟩, by decide +kernel, by decide +kernel, by decide +kernel⟩
set_option maxRecDepth 20000 in
theorem cv_RX1_150 : xw_cv RX1 150 2 yX2_goBack cX2_goBack 2 none 1 := ⟨by decide +kernel, ⟨_, rfl, rfl⟩, by decide +kernel, by decide +kernel, by decide +kernel⟩
set_option maxRecDepth 20000 in
theorem cv_RX1_154 : xw_cv RX1 154 0 yX0_hasRoom cX0_hasRoom 1 (some .boolean) 0 := ⟨by decide +kernel, ⟨_, rfl, rfl⟩, by decide +kernel, by decide +kernel, by decide +kernel⟩
set_option maxRecDepth 20000 in
theorem cv_RX1_163 : xw_cv RX1 163 1 yX1_wakeFirst cX1_wakeFirst 3 none 1 := ⟨by decide +kernel, ⟨_, rfl, rfl⟩, by decide +kernel, by decide +kernel, by decide +kernel⟩
set_option maxRecDepth 20000 in
theorem cv_RX2_47 : xw_cv RX2 47 2 yX2_moveOn cX2_moveOn 1 none 0 := ⟨by decide +kernel, ⟨_, rfl, rfl⟩, by decide +kernel, by decide +kernel, by decide +kernel⟩
set_option maxRecDepth 20000 in
theorem cv_RX2_59 : xw_cv RX2 59 2 yX2_stepAt cX2_stepAt 3 (some (.object "WaterFibers$Step")) 1 := ⟨by decide +kernel, ⟨_, rfl, rfl⟩, by decide +kernel, by decide +kernel, by decide +kernel⟩
set_option maxRecDepth 20000 in
theorem cv_RX2_63 : xw_cv RX2 63 4 yX4_becomeLike cX4_becomeLike 2 none 1 := ⟨by decide +kernel, ⟨_, rfl, rfl⟩, by decide +kernel, by decide +kernel, by decide +kernel⟩
set_option maxRecDepth 20000 in
theorem cv_RX3_19 : xw_cv RX3 19 3 yX3_look cX3_look 2 (some .int) 1 := ⟨by decide +kernel, ⟨_, rfl, rfl⟩, by decide +kernel, by decide +kernel, by decide +kernel⟩
set_option maxRecDepth 20000 in
theorem cv_RX5_59 : xw_cv RX5 59 1 yX1_fiberAt cX1_fiberAt 3 (some (.object "WaterFibers$Fiber")) 1 := ⟨by decide +kernel, ⟨_, rfl, rfl⟩, by decide +kernel, by decide +kernel, by decide +kernel⟩
set_option maxRecDepth 20000 in
theorem cv_RX5_90 : xw_cv RX5 90 5 yX5_isValue cX5_isValue 2 (some .boolean) 1 := ⟨by decide +kernel, ⟨_, rfl, rfl⟩, by decide +kernel, by decide +kernel, by decide +kernel⟩
set_option maxRecDepth 20000 in
theorem cv_RX5_127 : xw_cv RX5 127 1 yX1_letTurnGoBy cX1_letTurnGoBy 4 none 0 := ⟨by decide +kernel, ⟨_, rfl, rfl⟩, by decide +kernel, by decide +kernel, by decide +kernel⟩
set_option maxRecDepth 20000 in
theorem cv_RX5_133 : xw_cv RX5 133 1 yX1_countDone cX1_countDone 3 (some .int) 0 := ⟨by decide +kernel, ⟨_, rfl, rfl⟩, by decide +kernel, by decide +kernel, by decide +kernel⟩
set_option maxRecDepth 20000 in
theorem cv_RX5_140 : xw_cv RX5 140 3 yX3_look cX3_look 2 (some .int) 1 := ⟨by decide +kernel, ⟨_, rfl, rfl⟩, by decide +kernel, by decide +kernel, by decide +kernel⟩
set_option maxRecDepth 20000 in
theorem cv_RX5_144 : xw_cv RX5 144 1 yX1_hasStopped cX1_hasStopped 3 (some .boolean) 0 := ⟨by decide +kernel, ⟨_, rfl, rfl⟩, by decide +kernel, by decide +kernel, by decide +kernel⟩
set_option maxRecDepth 20000 in
theorem cv_RX5_147 : xw_cv RX5 147 1 yX1_allAreDone cX1_allAreDone 1 (some .boolean) 0 := ⟨by decide +kernel, ⟨_, rfl, rfl⟩, by decide +kernel, by decide +kernel, by decide +kernel⟩
set_option maxRecDepth 20000 in
theorem cv_RX5_173 : xw_cv RX5 173 1 yX1_becomeLike cX1_becomeLike 3 none 1 := ⟨by decide +kernel, ⟨_, rfl, rfl⟩, by decide +kernel, by decide +kernel, by decide +kernel⟩
set_option maxRecDepth 20000 in
theorem cv_RX5_242 : xw_cv RX5 242 5 yX5_isChannel cX5_isChannel 2 (some .boolean) 1 := ⟨by decide +kernel, ⟨_, rfl, rfl⟩, by decide +kernel, by decide +kernel, by decide +kernel⟩
set_option maxRecDepth 20000 in
theorem cv_RX5_247 : xw_cv RX5 247 5 yX5_isFiber cX5_isFiber 2 (some .boolean) 1 := ⟨by decide +kernel, ⟨_, rfl, rfl⟩, by decide +kernel, by decide +kernel, by decide +kernel⟩
set_option maxRecDepth 20000 in
theorem cv_RX6_48 : xw_cv RX6 48 6 yX6_waits cX6_waits 4 (some .boolean) 3 := ⟨by decide +kernel, ⟨_, rfl, rfl⟩, by decide +kernel, by decide +kernel, by decide +kernel⟩
set_option maxRecDepth 20000 in
theorem cv_RX6_51 : xw_cv RX6 51 6 yX6_ready cX6_ready 2 none 1 := ⟨by decide +kernel, ⟨_, rfl, rfl⟩, by decide +kernel, by decide +kernel, by decide +kernel⟩
set_option maxRecDepth 20000 in
theorem cv_RX6_55 : xw_cv RX6 55 6 yX6_wake cX6_wake 5 none 2 := ⟨by decide +kernel, ⟨_, rfl, rfl⟩, by decide +kernel, by decide +kernel, by decide +kernel⟩
set_option maxRecDepth 20000 in
theorem cv_RX6_59 : xw_cv RX6 59 6 yX6_waitIn cX6_waitIn 3 none 2 := ⟨by decide +kernel, ⟨_, rfl, rfl⟩, by decide +kernel, by decide +kernel, by decide +kernel⟩
set_option maxRecDepth 20000 in
theorem cv_RX6_62 : xw_cv RX6 62 6 yX6_send cX6_send 3 none 2 := ⟨by decide +kernel, ⟨_, rfl, rfl⟩, by decide +kernel, by decide +kernel, by decide +kernel⟩
set_option maxRecDepth 20000 in
theorem cv_RX6_65 : xw_cv RX6 65 6 yX6_take cX6_take 4 (some .int) 1 := ⟨by decide +kernel, ⟨_, rfl, rfl⟩, by decide +kernel, by decide +kernel, by decide +kernel⟩
set_option maxRecDepth 20000 in
theorem cv_RX6_69 : xw_cv RX6 69 6 yX6_isDone cX6_isDone 4 (some .boolean) 1 := ⟨by decide +kernel, ⟨_, rfl, rfl⟩, by decide +kernel, by decide +kernel, by decide +kernel⟩
set_option maxRecDepth 20000 in
theorem cv_RX6_73 : xw_cv RX6 73 6 yX6_done cX6_done 3 none 1 := ⟨by decide +kernel, ⟨_, rfl, rfl⟩, by decide +kernel, by decide +kernel, by decide +kernel⟩
set_option maxRecDepth 20000 in
theorem cv_RX6_76 : xw_cv RX6 76 6 yX6_go cX6_go 4 none 1 := ⟨by decide +kernel, ⟨_, rfl, rfl⟩, by decide +kernel, by decide +kernel, by decide +kernel⟩
set_option maxRecDepth 20000 in
theorem cv_RX6_79 : xw_cv RX6 79 6 yX6_no cX6_no 2 (some .int) 1 := ⟨by decide +kernel, ⟨_, rfl, rfl⟩, by decide +kernel, by decide +kernel, by decide +kernel⟩
set_option maxRecDepth 20000 in
theorem cv_RX6_82 : xw_cv RX6 82 6 yX6_isChannel cX6_isChannel 2 (some .boolean) 1 := ⟨by decide +kernel, ⟨_, rfl, rfl⟩, by decide +kernel, by decide +kernel, by decide +kernel⟩
set_option maxRecDepth 20000 in
theorem cv_RX6_85 : xw_cv RX6 85 6 yX6_isFiber cX6_isFiber 2 (some .boolean) 1 := ⟨by decide +kernel, ⟨_, rfl, rfl⟩, by decide +kernel, by decide +kernel, by decide +kernel⟩
set_option maxRecDepth 20000 in
theorem cv_RX6_88 : xw_cv RX6 88 6 yX6_isStep cX6_isStep 5 (some .boolean) 4 := ⟨by decide +kernel, ⟨_, rfl, rfl⟩, by decide +kernel, by decide +kernel, by decide +kernel⟩
set_option maxRecDepth 20000 in
theorem cv_RX6_92 : xw_cv RX6 92 6 yX6_turnOn cX6_turnOn 2 none 0 := ⟨by decide +kernel, ⟨_, rfl, rfl⟩, by decide +kernel, by decide +kernel, by decide +kernel⟩
set_option maxRecDepth 20000 in
theorem cv_RX6_95 : xw_cv RX6 95 6 yX6_ok cX6_ok 2 (some .int) 1 := ⟨by decide +kernel, ⟨_, rfl, rfl⟩, by decide +kernel, by decide +kernel, by decide +kernel⟩
set_option maxRecDepth 20000 in
theorem cv_RX6_98 : xw_cv RX6 98 6 yX6_inState cX6_inState 4 (some .int) 1 := ⟨by decide +kernel, ⟨_, rfl, rfl⟩, by decide +kernel, by decide +kernel, by decide +kernel⟩
set_option maxRecDepth 20000 in
theorem cv_RX6_101 : xw_cv RX6 101 6 yX6_first cX6_first 1 (some .int) 0 := ⟨by decide +kernel, ⟨_, rfl, rfl⟩, by decide +kernel, by decide +kernel, by decide +kernel⟩
set_option maxRecDepth 20000 in
theorem cv_RX6_105 : xw_cv RX6 105 6 yX6_stuck cX6_stuck 1 (some .boolean) 0 := ⟨by decide +kernel, ⟨_, rfl, rfl⟩, by decide +kernel, by decide +kernel, by decide +kernel⟩
set_option maxRecDepth 20000 in
theorem cv_RX6_109 : xw_cv RX6 109 6 yX6_heldIn cX6_heldIn 2 (some .int) 1 := ⟨by decide +kernel, ⟨_, rfl, rfl⟩, by decide +kernel, by decide +kernel, by decide +kernel⟩
set_option maxRecDepth 20000 in
theorem cv_RX6_112 : xw_cv RX6 112 6 yX6_waiting cX6_waiting 5 (some .int) 2 := ⟨by decide +kernel, ⟨_, rfl, rfl⟩, by decide +kernel, by decide +kernel, by decide +kernel⟩
set_option maxRecDepth 20000 in
theorem cv_RX6_116 : xw_cv RX6 116 6 yX6_ofFiber cX6_ofFiber 3 (some .int) 2 := ⟨by decide +kernel, ⟨_, rfl, rfl⟩, by decide +kernel, by decide +kernel, by decide +kernel⟩
set_option maxRecDepth 20000 in
theorem cv_RX6_119 : xw_cv RX6 119 6 yX6_inLine cX6_inLine 3 (some .int) 1 := ⟨by decide +kernel, ⟨_, rfl, rfl⟩, by decide +kernel, by decide +kernel, by decide +kernel⟩
set_option maxRecDepth 20000 in
theorem cv_RX6_122 : xw_cv RX6 122 6 yX6_keep cX6_keep 1 none 0 := ⟨by decide +kernel, ⟨_, rfl, rfl⟩, by decide +kernel, by decide +kernel, by decide +kernel⟩
set_option maxRecDepth 20000 in
theorem cv_RX6_125 : xw_cv RX6 125 6 yX6_bringBack cX6_bringBack 1 none 0 := ⟨by decide +kernel, ⟨_, rfl, rfl⟩, by decide +kernel, by decide +kernel, by decide +kernel⟩
set_option maxRecDepth 20000 in
theorem cv_RX6_128 : xw_cv RX6 128 6 yX6_untilDone cX6_untilDone 3 (some .int) 1 := ⟨by decide +kernel, ⟨_, rfl, rfl⟩, by decide +kernel, by decide +kernel, by decide +kernel⟩
set_option maxRecDepth 20000 in
theorem cv_RX6_131 : xw_cv RX6 131 6 yX6_untilStuck cX6_untilStuck 2 (some .int) 0 := ⟨by decide +kernel, ⟨_, rfl, rfl⟩, by decide +kernel, by decide +kernel, by decide +kernel⟩
set_option maxRecDepth 20000 in
theorem cv_RX6_134 : xw_cv RX6 134 6 yX6_roomFor cX6_roomFor 5 (some .int) 1 := ⟨by decide +kernel, ⟨_, rfl, rfl⟩, by decide +kernel, by decide +kernel, by decide +kernel⟩
set_option maxRecDepth 20000 in
theorem cs_RX6_35 : xw_cs RX6 35 yX6_isFrom cX6_isFrom 3 (some .boolean) 3 := ⟨by decide +kernel, by decide +kernel, by decide +kernel, by decide +kernel, by decide +kernel⟩
set_option maxRecDepth 20000 in
theorem sy_RX6_42 : xw_sy RX6 42 := ⟨lw_g_in (by decide +kernel) (by decide +kernel), lw_g_in (by decide +kernel) (by decide +kernel), lw_g_in (by decide +kernel) (by decide +kernel), lw_g_in (by decide +kernel) (by decide +kernel)⟩
