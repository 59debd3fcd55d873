set_option maxRecDepth 20000 in
theorem fl_RX0_10 : xw_fl RX0 10 0 1 := ⟨_, rfl, by decide, rfl, lw_g_in (by decide +kernel) (by decide +kernel)⟩
set_option maxRecDepth 20000 in
theorem fl_RX0_16 : xw_fl RX0 16 0 2 := ⟨_, rfl, by decide, rfl, lw_g_in (by decide +kernel) (by decide +kernel)⟩
set_option maxRecDepth 20000 in
theorem fl_RX0_19 : xw_fl RX0 19 0 3 := ⟨_, rfl, by decide, rfl, lw_g_in (by decide +kernel) (by decide +kernel)⟩
set_option maxRecDepth 20000 in
theorem fl_RX0_22 : xw_fl RX0 22 3 1 := ⟨_, rfl, by decide, rfl, lw_g_in (by decide +kernel) (by decide +kernel)⟩
set_option maxRecDepth 20000 in
theorem fl_RX0_26 : xw_fl RX0 26 0 0 := ⟨_, rfl, by decide, rfl, lw_g_in (by decide +kernel) (by decide +kernel)⟩
set_option maxRecDepth 20000 in
theorem fl_RX1_11 : xw_fl RX1 11 1 0 := ⟨_, rfl, by decide, rfl, lw_g_in (by decide +kernel) (by decide +kernel)⟩
set_option maxRecDepth 20000 in
theorem fl_RX1_19 : xw_fl RX1 19 1 1 := ⟨_, rfl, by decide, rfl, lw_g_in (by decide +kernel) (by decide +kernel)⟩
set_option maxRecDepth 20000 in
theorem fl_RX1_24 : xw_fl RX1 24 1 2 := ⟨_, rfl, by decide, rfl, lw_g_in (by decide +kernel) (by decide +kernel)⟩
set_option maxRecDepth 20000 in
theorem fl_RX1_31 : xw_fl RX1 31 1 3 := ⟨_, rfl, by decide, rfl, lw_g_in (by decide +kernel) (by decide +kernel)⟩
set_option maxRecDepth 20000 in
theorem fl_RX1_38 : xw_fl RX1 38 1 4 := ⟨_, rfl, by decide, rfl, lw_g_in (by decide +kernel) (by decide +kernel)⟩
set_option maxRecDepth 20000 in
theorem fl_RX1_42 : xw_fl RX1 42 1 5 := ⟨_, rfl, by decide, rfl, lw_g_in (by decide +kernel) (by decide +kernel)⟩
set_option maxRecDepth 20000 in
theorem fl_RX1_46 : xw_fl RX1 46 1 6 := ⟨_, rfl, by decide, rfl, lw_g_in (by decide +kernel) (by decide +kernel)⟩
set_option maxRecDepth 20000 in
theorem fl_RX1_49 : xw_fl RX1 49 1 7 := ⟨_, rfl, by decide, rfl, lw_g_in (by decide +kernel) (by decide +kernel)⟩
set_option maxRecDepth 20000 in
theorem fl_RX1_52 : xw_fl RX1 52 1 8 := ⟨_, rfl, by decide, rfl, lw_g_in (by decide +kernel) (by decide +kernel)⟩
set_option maxRecDepth 20000 in
theorem fl_RX1_73 : xw_fl RX1 73 2 1 := ⟨_, rfl, by decide, rfl, lw_g_in (by decide +kernel) (by decide +kernel)⟩
set_option maxRecDepth 20000 in
theorem fl_RX1_83 : xw_fl RX1 83 3 1 := ⟨_, rfl, by decide, rfl, lw_g_in (by decide +kernel) (by decide +kernel)⟩
set_option maxRecDepth 20000 in
theorem fl_RX1_89 : xw_fl RX1 89 2 5 := ⟨_, rfl, by decide, rfl, lw_g_in (by decide +kernel) (by decide +kernel)⟩
set_option maxRecDepth 20000 in
theorem fl_RX1_103 : xw_fl RX1 103 2 0 := ⟨_, rfl, by decide, rfl, lw_g_in (by decide +kernel) (by decide +kernel)⟩
set_option maxRecDepth 20000 in
theorem fl_RX1_109 : xw_fl RX1 109 2 6 := ⟨_, rfl, by decide, rfl, lw_g_in (by decide +kernel) (by decide +kernel)⟩
set_option maxRecDepth 20000 in
theorem fl_RX1_115 : xw_fl RX1 115 2 2 := ⟨_, rfl, by decide, rfl, lw_g_in (by decide +kernel) (by decide +kernel)⟩
set_option maxRecDepth 20000 in
theorem fl_RX1_122 : xw_fl RX1 122 4 0 := ⟨_, rfl, by decide, rfl, lw_g_in (by decide +kernel) (by decide +kernel)⟩
set_option maxRecDepth 20000 in
theorem fl_RX1_127 : xw_fl RX1 127 4 1 := ⟨_, rfl, by decide, rfl, lw_g_in (by decide +kernel) (by decide +kernel)⟩
set_option maxRecDepth 20000 in
theorem fl_RX1_130 : xw_fl RX1 130 4 2 := ⟨_, rfl, by decide, rfl, lw_g_in (by decide +kernel) (by decide +kernel)⟩
set_option maxRecDepth 20000 in
theorem fl_RX1_137 : xw_fl RX1 137 2 3 := ⟨_, rfl, by decide, rfl, lw_g_in (by decide +kernel) (by decide +kernel)⟩
set_option maxRecDepth 20000 in
theorem fl_RX1_157 : xw_fl RX1 157 0 1 := ⟨_, rfl, by decide, rfl, lw_g_in (by decide +kernel) (by decide +kernel)⟩
set_option maxRecDepth 20000 in
theorem fl_RX1_160 : xw_fl RX1 160 0 3 := ⟨_, rfl, by decide, rfl, lw_g_in (by decide +kernel) (by decide +kernel)⟩
set_option maxRecDepth 20000 in
theorem fl_RX1_166 : xw_fl RX1 166 0 2 := ⟨_, rfl, by decide, rfl, lw_g_in (by decide +kernel) (by decide +kernel)⟩
set_option maxRecDepth 20000 in
theorem fl_RX2_9 : xw_fl RX2 9 2 1 := ⟨_, rfl, by decide, rfl, lw_g_in (by decide +kernel) (by decide +kernel)⟩
set_option maxRecDepth 20000 in
theorem fl_RX2_17 : xw_fl RX2 17 2 8 := ⟨_, rfl, by decide, rfl, lw_g_in (by decide +kernel) (by decide +kernel)⟩
set_option maxRecDepth 20000 in
theorem fl_RX2_22 : xw_fl RX2 22 2 9 := ⟨_, rfl, by decide, rfl, lw_g_in (by decide +kernel) (by decide +kernel)⟩
set_option maxRecDepth 20000 in
theorem fl_RX2_29 : xw_fl RX2 29 2 2 := ⟨_, rfl, by decide, rfl, lw_g_in (by decide +kernel) (by decide +kernel)⟩
set_option maxRecDepth 20000 in
theorem fl_RX2_32 : xw_fl RX2 32 2 7 := ⟨_, rfl, by decide, rfl, lw_g_in (by decide +kernel) (by decide +kernel)⟩
set_option maxRecDepth 20000 in
theorem fl_RX2_35 : xw_fl RX2 35 2 4 := ⟨_, rfl, by decide, rfl, lw_g_in (by decide +kernel) (by decide +kernel)⟩
set_option maxRecDepth 20000 in
theorem fl_RX2_38 : xw_fl RX2 38 4 3 := ⟨_, rfl, by decide, rfl, lw_g_in (by decide +kernel) (by decide +kernel)⟩
set_option maxRecDepth 20000 in
theorem fl_RX2_41 : xw_fl RX2 41 4 2 := ⟨_, rfl, by decide, rfl, lw_g_in (by decide +kernel) (by decide +kernel)⟩
set_option maxRecDepth 20000 in
theorem fl_RX2_44 : xw_fl RX2 44 4 1 := ⟨_, rfl, by decide, rfl, lw_g_in (by decide +kernel) (by decide +kernel)⟩
set_option maxRecDepth 20000 in
theorem fl_RX2_50 : xw_fl RX2 50 2 3 := ⟨_, rfl, by decide, rfl, lw_g_in (by decide +kernel) (by decide +kernel)⟩
set_option maxRecDepth 20000 in
theorem fl_RX2_53 : xw_fl RX2 53 2 5 := ⟨_, rfl, by decide, rfl, lw_g_in (by decide +kernel) (by decide +kernel)⟩
set_option maxRecDepth 20000 in
theorem fl_RX2_56 : xw_fl RX2 56 2 6 := ⟨_, rfl, by decide, rfl, lw_g_in (by decide +kernel) (by decide +kernel)⟩
set_option maxRecDepth 20000 in
theorem fl_RX3_9 : xw_fl RX3 9 3 0 := ⟨_, rfl, by decide, rfl, lw_g_in (by decide +kernel) (by decide +kernel)⟩
set_option maxRecDepth 20000 in
theorem fl_RX3_15 : xw_fl RX3 15 3 1 := ⟨_, rfl, by decide, rfl, lw_g_in (by decide +kernel) (by decide +kernel)⟩
set_option maxRecDepth 20000 in
theorem fl_RX4_9 : xw_fl RX4 9 4 0 := ⟨_, rfl, by decide, rfl, lw_g_in (by decide +kernel) (by decide +kernel)⟩
set_option maxRecDepth 20000 in
theorem fl_RX4_15 : xw_fl RX4 15 4 1 := ⟨_, rfl, by decide, rfl, lw_g_in (by decide +kernel) (by decide +kernel)⟩
set_option maxRecDepth 20000 in
theorem fl_RX4_18 : xw_fl RX4 18 4 2 := ⟨_, rfl, by decide, rfl, lw_g_in (by decide +kernel) (by decide +kernel)⟩
set_option maxRecDepth 20000 in
theorem fl_RX4_21 : xw_fl RX4 21 4 3 := ⟨_, rfl, by decide, rfl, lw_g_in (by decide +kernel) (by decide +kernel)⟩
set_option maxRecDepth 20000 in
theorem fl_RX5_10 : xw_fl RX5 10 5 0 := ⟨_, rfl, by decide, rfl, lw_g_in (by decide +kernel) (by decide +kernel)⟩
set_option maxRecDepth 20000 in
theorem fl_RX5_16 : xw_fl RX5 16 5 1 := ⟨_, rfl, by decide, rfl, lw_g_in (by decide +kernel) (by decide +kernel)⟩
set_option maxRecDepth 20000 in
theorem fl_RX5_26 : xw_fl RX5 26 1 5 := ⟨_, rfl, by decide, rfl, lw_g_in (by decide +kernel) (by decide +kernel)⟩
set_option maxRecDepth 20000 in
theorem fl_RX5_39 : xw_fl RX5 39 0 0 := ⟨_, rfl, by decide, rfl, lw_g_in (by decide +kernel) (by decide +kernel)⟩
set_option maxRecDepth 20000 in
theorem fl_RX5_44 : xw_fl RX5 44 1 6 := ⟨_, rfl, by decide, rfl, lw_g_in (by decide +kernel) (by decide +kernel)⟩
set_option maxRecDepth 20000 in
theorem fl_RX5_63 : xw_fl RX5 63 2 7 := ⟨_, rfl, by decide, rfl, lw_g_in (by decide +kernel) (by decide +kernel)⟩
set_option maxRecDepth 20000 in
theorem fl_RX5_80 : xw_fl RX5 80 2 1 := ⟨_, rfl, by decide, rfl, lw_g_in (by decide +kernel) (by decide +kernel)⟩
set_option maxRecDepth 20000 in
theorem fl_RX5_102 : xw_fl RX5 102 0 1 := ⟨_, rfl, by decide, rfl, lw_g_in (by decide +kernel) (by decide +kernel)⟩
set_option maxRecDepth 20000 in
theorem fl_RX5_111 : xw_fl RX5 111 0 3 := ⟨_, rfl, by decide, rfl, lw_g_in (by decide +kernel) (by decide +kernel)⟩
set_option maxRecDepth 20000 in
theorem fl_RX5_118 : xw_fl RX5 118 3 1 := ⟨_, rfl, by decide, rfl, lw_g_in (by decide +kernel) (by decide +kernel)⟩
set_option maxRecDepth 20000 in
theorem fl_RX5_124 : xw_fl RX5 124 1 8 := ⟨_, rfl, by decide, rfl, lw_g_in (by decide +kernel) (by decide +kernel)⟩
set_option maxRecDepth 20000 in
theorem fl_RX5_130 : xw_fl RX5 130 1 7 := ⟨_, rfl, by decide, rfl, lw_g_in (by decide +kernel) (by decide +kernel)⟩
set_option maxRecDepth 20000 in
theorem fl_RX5_137 : xw_fl RX5 137 1 4 := ⟨_, rfl, by decide, rfl, lw_g_in (by decide +kernel) (by decide +kernel)⟩
set_option maxRecDepth 20000 in
theorem fl_RX5_155 : xw_fl RX5 155 0 2 := ⟨_, rfl, by decide, rfl, lw_g_in (by decide +kernel) (by decide +kernel)⟩
set_option maxRecDepth 20000 in
theorem fl_RX5_158 : xw_fl RX5 158 2 2 := ⟨_, rfl, by decide, rfl, lw_g_in (by decide +kernel) (by decide +kernel)⟩
set_option maxRecDepth 20000 in
theorem fl_RX5_161 : xw_fl RX5 161 2 3 := ⟨_, rfl, by decide, rfl, lw_g_in (by decide +kernel) (by decide +kernel)⟩
set_option maxRecDepth 20000 in
theorem fl_RX5_164 : xw_fl RX5 164 2 4 := ⟨_, rfl, by decide, rfl, lw_g_in (by decide +kernel) (by decide +kernel)⟩
set_option maxRecDepth 20000 in
theorem fl_RX5_167 : xw_fl RX5 167 2 5 := ⟨_, rfl, by decide, rfl, lw_g_in (by decide +kernel) (by decide +kernel)⟩
set_option maxRecDepth 20000 in
theorem pf_0_0 : xw_pf 0 0 := ⟨⟨_, rfl, rfl, by decide +kernel⟩, by decide, fun _ _ _ _ => ⟨rfl, by simp [xw_fs]⟩⟩
set_option maxRecDepth 20000 in
theorem pf_1_5 : xw_pf 1 5 := ⟨⟨_, rfl, rfl, by decide +kernel⟩, by decide, fun _ _ _ _ => ⟨rfl, by simp [xw_fs]⟩⟩
set_option maxRecDepth 20000 in
theorem pf_1_6 : xw_pf 1 6 := ⟨⟨_, rfl, rfl, by decide +kernel⟩, by decide, fun _ _ _ _ => ⟨rfl, by simp [xw_fs]⟩⟩
set_option maxRecDepth 20000 in
theorem pf_1_7 : xw_pf 1 7 := ⟨⟨_, rfl, rfl, by decide +kernel⟩, by decide, fun _ _ _ _ => ⟨rfl, by simp [xw_fs]⟩⟩
set_option maxRecDepth 20000 in
theorem pf_1_8 : xw_pf 1 8 := ⟨⟨_, rfl, rfl, by decide +kernel⟩, by decide, fun _ _ _ _ => ⟨rfl, by simp [xw_fs]⟩⟩
set_option maxRecDepth 20000 in
theorem pf_2_1 : xw_pf 2 1 := ⟨⟨_, rfl, rfl, by decide +kernel⟩, by decide, fun _ _ _ _ => ⟨rfl, by simp [xw_fs]⟩⟩
set_option maxRecDepth 20000 in
theorem pf_2_2 : xw_pf 2 2 := ⟨⟨_, rfl, rfl, by decide +kernel⟩, by decide, fun _ _ _ _ => ⟨rfl, by simp [xw_fs]⟩⟩
set_option maxRecDepth 20000 in
theorem pf_2_3 : xw_pf 2 3 := ⟨⟨_, rfl, rfl, by decide +kernel⟩, by decide, fun _ _ _ _ => ⟨rfl, by simp [xw_fs]⟩⟩
set_option maxRecDepth 20000 in
theorem pf_2_4 : xw_pf 2 4 := ⟨⟨_, rfl, rfl, by decide +kernel⟩, by decide, fun _ _ _ _ => ⟨rfl, by simp [xw_fs]⟩⟩
set_option maxRecDepth 20000 in
theorem pf_2_5 : xw_pf 2 5 := ⟨⟨_, rfl, rfl, by decide +kernel⟩, by decide, fun _ _ _ _ => ⟨rfl, by simp [xw_fs]⟩⟩
set_option maxRecDepth 20000 in
theorem pf_2_6 : xw_pf 2 6 := ⟨⟨_, rfl, rfl, by decide +kernel⟩, by decide, fun _ _ _ _ => ⟨rfl, by simp [xw_fs]⟩⟩
set_option maxRecDepth 20000 in
theorem pf_2_7 : xw_pf 2 7 := ⟨⟨_, rfl, rfl, by decide +kernel⟩, by decide, fun _ _ _ _ => ⟨rfl, by simp [xw_fs]⟩⟩
set_option maxRecDepth 20000 in
theorem pf_3_1 : xw_pf 3 1 := ⟨⟨_, rfl, rfl, by decide +kernel⟩, by decide, fun _ _ _ _ => ⟨rfl, by simp [xw_fs]⟩⟩
set_option maxRecDepth 20000 in
theorem pf_4_0 : xw_pf 4 0 := ⟨⟨_, rfl, rfl, by decide +kernel⟩, by decide, fun _ _ _ _ => ⟨rfl, by simp [xw_fs]⟩⟩
set_option maxRecDepth 20000 in
theorem pf_4_1 : xw_pf 4 1 := ⟨⟨_, rfl, rfl, by decide +kernel⟩, by decide, fun _ _ _ _ => ⟨rfl, by simp [xw_fs]⟩⟩
set_option maxRecDepth 20000 in
theorem pf_4_2 : xw_pf 4 2 := ⟨⟨_, rfl, rfl, by decide +kernel⟩, by decide, fun _ _ _ _ => ⟨rfl, by simp [xw_fs]⟩⟩
set_option maxRecDepth 20000 in
theorem pf_4_3 : xw_pf 4 3 := ⟨⟨_, rfl, rfl, by decide +kernel⟩, by decide, fun _ _ _ _ => ⟨rfl, by simp [xw_fs]⟩⟩
set_option maxRecDepth 20000 in
theorem kp_0_1 {k : Nat} (hk : xw_kd k = 0) : xw_kd (k + 1) = 3 := (show ∀ k, k < 351 → xw_kd k = 0 → xw_kd (k + 1) = 3 by decide +kernel) k (xw_lt hk (by decide)) hk
set_option maxRecDepth 20000 in
theorem kp_0_2 {k : Nat} (hk : xw_kd k = 0) : xw_kd (k + 3) = 3 := (show ∀ k, k < 351 → xw_kd k = 0 → xw_kd (k + 3) = 3 by decide +kernel) k (xw_lt hk (by decide)) hk
set_option maxRecDepth 20000 in
theorem kp_0_3 {k : Nat} (hk : xw_kd k = 0) : xw_kd (k + 5) = 3 := (show ∀ k, k < 351 → xw_kd k = 0 → xw_kd (k + 5) = 3 by decide +kernel) k (xw_lt hk (by decide)) hk
set_option maxRecDepth 20000 in
theorem kp_1_0 {k : Nat} (hk : xw_kd k = 1) : xw_kd (k + 1) = 8 := (show ∀ k, k < 351 → xw_kd k = 1 → xw_kd (k + 1) = 8 by decide +kernel) k (xw_lt hk (by decide)) hk
set_option maxRecDepth 20000 in
theorem kp_1_1 {k : Nat} (hk : xw_kd k = 1) : xw_kd (k + 2) = 9 := (show ∀ k, k < 351 → xw_kd k = 1 → xw_kd (k + 2) = 9 by decide +kernel) k (xw_lt hk (by decide)) hk
set_option maxRecDepth 20000 in
theorem kp_1_2 {k : Nat} (hk : xw_kd k = 1) : xw_kd (k + 33) = 0 := (show ∀ k, k < 351 → xw_kd k = 1 → xw_kd (k + 33) = 0 by decide +kernel) k (xw_lt hk (by decide)) hk
set_option maxRecDepth 20000 in
theorem kp_1_3 {k : Nat} (hk : xw_kd k = 1) : xw_kd (k + 160) = 2 := (show ∀ k, k < 351 → xw_kd k = 1 → xw_kd (k + 160) = 2 by decide +kernel) k (xw_lt hk (by decide)) hk
set_option maxRecDepth 20000 in
theorem kp_1_4 {k : Nat} (hk : xw_kd k = 1) : xw_kd (k + 3) = 3 := (show ∀ k, k < 351 → xw_kd k = 1 → xw_kd (k + 3) = 3 by decide +kernel) k (xw_lt hk (by decide)) hk
set_option maxRecDepth 20000 in
theorem kp_2_8 {k : Nat} (hk : xw_kd k = 2) : xw_kd (k + 1) = 10 := (show ∀ k, k < 351 → xw_kd k = 2 → xw_kd (k + 1) = 10 by decide +kernel) k (xw_lt hk (by decide)) hk
set_option maxRecDepth 20000 in
theorem kp_2_9 {k : Nat} (hk : xw_kd k = 2) : xw_kd (k + 14) = 4 := (show ∀ k, k < 351 → xw_kd k = 2 → xw_kd (k + 14) = 4 by decide +kernel) k (xw_lt hk (by decide)) hk
set_option maxRecDepth 20000 in
theorem kp_3_0 {k : Nat} (hk : xw_kd k = 3) : xw_kd (k + 1) = 11 := (show ∀ k, k < 351 → xw_kd k = 3 → xw_kd (k + 1) = 11 by decide +kernel) k (xw_lt hk (by decide)) hk
set_option maxRecDepth 20000 in
theorem kp_5_0 : xw_kd 0 = 1 := by decide +kernel
set_option maxRecDepth 20000 in
theorem kp_5_1 : xw_kd 175 = 1 := by decide +kernel
set_option maxRecDepth 20000 in
theorem kl_8 {k : Nat} {i : Int32} (hk : xw_kd k = 8) (hi : xo_ix i 4 = true) : xw_kd (xw_el 8 k (Int32.toNatClampNeg i)) = 0 := xw_kel (κ := 8) rfl hk (xo_ix_lt hi)
set_option maxRecDepth 20000 in
theorem kl_9 {k : Nat} {i : Int32} (hk : xw_kd k = 9) (hi : xo_ix i 8 = true) : xw_kd (xw_el 9 k (Int32.toNatClampNeg i)) = 2 := xw_kel (κ := 9) rfl hk (xo_ix_lt hi)
set_option maxRecDepth 20000 in
theorem kl_10 {k : Nat} {i : Int32} (hk : xw_kd k = 10) (hi : xo_ix i 12 = true) : xw_kd (xw_el 10 k (Int32.toNatClampNeg i)) = 4 := xw_kel (κ := 10) rfl hk (xo_ix_lt hi)
set_option maxRecDepth 20000 in
theorem cv_RX0_29 : xw_cv RX0 29 3 yX3_becomeLike cX3_becomeLike 3 none 1 := ⟨by decide +kernel, ⟨_, rfl, rfl⟩, by decide +kernel, by decide +kernel, by decide +kernel⟩
set_option maxRecDepth 20000 in
theorem cv_RX1_55 : xw_cv RX1 55 3 yX3_becomeLike cX3_becomeLike 3 none 1 := ⟨by decide +kernel, ⟨_, rfl, rfl⟩, by decide +kernel, by decide +kernel, by decide +kernel⟩
set_option maxRecDepth 20000 in
theorem cv_RX1_59 : xw_cv RX1 59 1 yX1_channelAt cX1_channelAt 3 (some (.object "WaterFibers$Channel")) 1 := ⟨by decide +kernel, ⟨_, rfl, rfl⟩, by decide +kernel, by decide +kernel, by decide +kernel⟩
set_option maxRecDepth 20000 in
theorem cv_RX1_63 : xw_cv RX1 63 0 yX0_becomeLike cX0_becomeLike 2 none 1 := ⟨by decide +kernel, ⟨_, rfl, rfl⟩, by decide +kernel, by decide +kernel, by decide +kernel⟩
set_option maxRecDepth 20000 in
theorem cv_RX1_66 : xw_cv RX1 66 1 yX1_fiberAt cX1_fiberAt 3 (some (.object "WaterFibers$Fiber")) 1 := ⟨by decide +kernel, ⟨_, rfl, rfl⟩, by decide +kernel, by decide +kernel, by decide +kernel⟩
set_option maxRecDepth 20000 in
theorem cv_RX1_70 : xw_cv RX1 70 2 yX2_becomeLike cX2_becomeLike 3 none 1 := ⟨by decide +kernel, ⟨_, rfl, rfl⟩, by decide +kernel, by decide +kernel, by decide +kernel⟩
set_option maxRecDepth 20000 in
theorem cv_RX1_76 : xw_cv RX1 76 1 yX1_countDone cX1_countDone 3 (some .int) 0 := ⟨by decide +kernel, ⟨_, rfl, rfl⟩, by decide +kernel, by decide +kernel, by decide +kernel⟩
set_option maxRecDepth 20000 in
theorem cv_RX1_80 : xw_cv RX1 80 1 yX1_wakeSleepers cX1_wakeSleepers 3 none 0 := ⟨by decide +kernel, ⟨_, rfl, rfl⟩, by decide +kernel, by decide +kernel, by decide +kernel⟩
set_option maxRecDepth 20000 in
theorem cv_RX1_86 : xw_cv RX1 86 3 yX3_takeFirst cX3_takeFirst 3 (some .int) 0 := ⟨by decide +kernel, ⟨_, rfl, rfl⟩, by decide +kernel, by decide +kernel, by decide +kernel⟩
set_option maxRecDepth 20000 in
theorem cv_RX1_92 : xw_cv RX1 92 2 yX2_hasStepsLeft cX2_hasStepsLeft 1 (some .boolean) 0 := ⟨by decide +kernel, ⟨_, rfl, rfl⟩, by decide +kernel, by decide +kernel, by decide +kernel⟩
set_option maxRecDepth 20000 in
theorem cv_RX1_96 : xw_cv RX1 96 1 yX1_doStep cX1_doStep 3 (some .boolean) 1 := ⟨by decide +kernel, ⟨_, rfl, rfl⟩, by decide +kernel, by decide +kernel, by decide +kernel⟩
set_option maxRecDepth 20000 in
theorem cv_RX1_100 : xw_cv RX1 100 1 yX1_endTurn cX1_endTurn 4 none 1 := ⟨by decide +kernel, ⟨_, rfl, rfl⟩, by decide +kernel, by decide +kernel, by decide +kernel⟩
set_option maxRecDepth 20000 in
theorem cv_RX1_106 : xw_cv RX1 106 3 yX3_addLast cX3_addLast 2 none 1 := ⟨by decide +kernel, ⟨_, rfl, rfl⟩, by decide +kernel, by decide +kernel, by decide +kernel⟩
set_option maxRecDepth 20000 in
theorem cv_RX1_112 : xw_cv RX1 112 1 yX1_makeReady cX1_makeReady 2 none 1 := ⟨by decide +kernel, ⟨_, rfl, rfl⟩, by decide +kernel, by decide +kernel, by decide +kernel⟩
set_option maxRecDepth 20000 in
theorem cv_RX1_118 : xw_cv RX1 118 2 yX2_stepAt cX2_stepAt 3 (some (.object "WaterFibers$Step")) 1 := ⟨by decide +kernel, ⟨_, rfl, rfl⟩, by decide +kernel, by decide +kernel, by decide +kernel⟩
set_option maxRecDepth 20000 in
theorem cv_RX1_133 : xw_cv RX1 133 1 yX1_send cX1_send 5 none 3 := ⟨by decide +kernel, ⟨_, rfl, rfl⟩, by decide +kernel, by decide +kernel, by decide +kernel⟩
set_option maxRecDepth 20000 in
theorem cv_RX1_140 : xw_cv RX1 140 1 yX1_take cX1_take 4 none 2 := ⟨by decide +kernel, ⟨_, rfl, rfl⟩, by decide +kernel, by decide +kernel, by decide +kernel⟩
set_option maxRecDepth 20000 in
theorem cv_RX1_144 : xw_cv RX1 144 2 yX2_moveOn cX2_moveOn 1 none 0 := ⟨by decide +kernel, ⟨_, rfl, rfl⟩, by decide +kernel, by decide +kernel, by decide +kernel⟩
set_option maxRecDepth 20000 in
theorem cv_RX1_147 : xw_cv RX1 147 1 yX1_waitFor cX1_waitFor 3 none 2 := ⟨by decide +kernel, ⟨_, rfl, rfl⟩, by decide +kernel, by decide +kernel, by decide +kernel⟩
set_option maxRecDepth 20000 in
theorem cv_RX1_150 : xw_cv RX1 150 2 yX2_goBack cX2_goBack 2 none 1 := ⟨by decide +kernel, ⟨_, rfl, rfl⟩, by decide +kernel, by decide +kernel, by decide +kernel⟩
set_option maxRecDepth 20000 in
theorem cv_RX1_154 : xw_cv RX1 154 0 yX0_hasRoom cX0_hasRoom 1 (some .boolean) 0 := ⟨by decide +kernel, ⟨_, rfl, rfl⟩, by decide +kernel, by decide +kernel, by decide +kernel⟩
set_option maxRecDepth 20000 in
theorem cv_RX1_163 : xw_cv RX1 163 1 yX1_wakeFirst cX1_wakeFirst 3 none 1 := ⟨by decide +kernel, ⟨_, rfl, rfl⟩, by decide +kernel, by decide +kernel, by decide +kernel⟩
set_option maxRecDepth 20000 in
theorem cv_RX2_47 : xw_cv RX2 47 2 yX2_moveOn cX2_moveOn 1 none 0 := ⟨by decide +kernel, ⟨_, rfl, rfl⟩, by decide +kernel, by decide +kernel, by decide +kernel⟩
set_option maxRecDepth 20000 in
theorem cv_RX2_59 : xw_cv RX2 59 2 yX2_stepAt cX2_stepAt 3 (some (.object "WaterFibers$Step")) 1 := ⟨by decide +kernel, ⟨_, rfl, rfl⟩, by decide +kernel, by decide +kernel, by decide +kernel⟩
set_option maxRecDepth 20000 in
theorem cv_RX2_63 : xw_cv RX2 63 4 yX4_becomeLike cX4_becomeLike 2 none 1 := ⟨by decide +kernel, ⟨_, rfl, rfl⟩, by decide +kernel, by decide +kernel, by decide +kernel⟩
set_option maxRecDepth 20000 in
theorem cv_RX3_19 : xw_cv RX3 19 3 yX3_look cX3_look 2 (some .int) 1 := ⟨by decide +kernel, ⟨_, rfl, rfl⟩, by decide +kernel, by decide +kernel, by decide +kernel⟩
set_option maxRecDepth 20000 in
theorem cv_RX5_35 : xw_cv RX5 35 1 yX1_channelAt cX1_channelAt 3 (some (.object "WaterFibers$Channel")) 1 := ⟨by decide +kernel, ⟨_, rfl, rfl⟩, by decide +kernel, by decide +kernel, by decide +kernel⟩
set_option maxRecDepth 20000 in
theorem cv_RX5_49 : xw_cv RX5 49 5 yX5_checkFiber cX5_checkFiber 2 none 1 := ⟨by decide +kernel, ⟨_, rfl, rfl⟩, by decide +kernel, by decide +kernel, by decide +kernel⟩
set_option maxRecDepth 20000 in
theorem cv_RX5_53 : xw_cv RX5 53 5 yX5_isStep cX5_isStep 5 (some .boolean) 4 := ⟨by decide +kernel, ⟨_, rfl, rfl⟩, by decide +kernel, by decide +kernel, by decide +kernel⟩
set_option maxRecDepth 20000 in
theorem cv_RX5_59 : xw_cv RX5 59 1 yX1_fiberAt cX1_fiberAt 3 (some (.object "WaterFibers$Fiber")) 1 := ⟨by decide +kernel, ⟨_, rfl, rfl⟩, by decide +kernel, by decide +kernel, by decide +kernel⟩
set_option maxRecDepth 20000 in
theorem cv_RX5_70 : xw_cv RX5 70 2 yX2_stepAt cX2_stepAt 3 (some (.object "WaterFibers$Step")) 1 := ⟨by decide +kernel, ⟨_, rfl, rfl⟩, by decide +kernel, by decide +kernel, by decide +kernel⟩
set_option maxRecDepth 20000 in
theorem cv_RX5_74 : xw_cv RX5 74 4 yX4_describe cX4_describe 4 none 3 := ⟨by decide +kernel, ⟨_, rfl, rfl⟩, by decide +kernel, by decide +kernel, by decide +kernel⟩
set_option maxRecDepth 20000 in
theorem cv_RX5_83 : xw_cv RX5 83 1 yX1_makeReady cX1_makeReady 2 none 1 := ⟨by decide +kernel, ⟨_, rfl, rfl⟩, by decide +kernel, by decide +kernel, by decide +kernel⟩
set_option maxRecDepth 20000 in
theorem cv_RX5_87 : xw_cv RX5 87 5 yX5_checkChannel cX5_checkChannel 2 none 1 := ⟨by decide +kernel, ⟨_, rfl, rfl⟩, by decide +kernel, by decide +kernel, by decide +kernel⟩
set_option maxRecDepth 20000 in
theorem cv_RX5_90 : xw_cv RX5 90 5 yX5_isValue cX5_isValue 2 (some .boolean) 1 := ⟨by decide +kernel, ⟨_, rfl, rfl⟩, by decide +kernel, by decide +kernel, by decide +kernel⟩
set_option maxRecDepth 20000 in
theorem cv_RX5_96 : xw_cv RX5 96 0 yX0_hasRoom cX0_hasRoom 1 (some .boolean) 0 := ⟨by decide +kernel, ⟨_, rfl, rfl⟩, by decide +kernel, by decide +kernel, by decide +kernel⟩
set_option maxRecDepth 20000 in
theorem cv_RX5_106 : xw_cv RX5 106 3 yX3_addLast cX3_addLast 2 none 1 := ⟨by decide +kernel, ⟨_, rfl, rfl⟩, by decide +kernel, by decide +kernel, by decide +kernel⟩
set_option maxRecDepth 20000 in
theorem cv_RX5_114 : xw_cv RX5 114 1 yX1_wakeFirst cX1_wakeFirst 3 none 1 := ⟨by decide +kernel, ⟨_, rfl, rfl⟩, by decide +kernel, by decide +kernel, by decide +kernel⟩
set_option maxRecDepth 20000 in
theorem cv_RX5_121 : xw_cv RX5 121 5 yX5_checkTurns cX5_checkTurns 2 none 1 := ⟨by decide +kernel, ⟨_, rfl, rfl⟩, by decide +kernel, by decide +kernel, by decide +kernel⟩
set_option maxRecDepth 20000 in
theorem cv_RX5_127 : xw_cv RX5 127 1 yX1_letTurnGoBy cX1_letTurnGoBy 4 none 0 := ⟨by decide +kernel, ⟨_, rfl, rfl⟩, by decide +kernel, by decide +kernel, by decide +kernel⟩
set_option maxRecDepth 20000 in
theorem cv_RX5_133 : xw_cv RX5 133 1 yX1_countDone cX1_countDone 3 (some .int) 0 := ⟨by decide +kernel, ⟨_, rfl, rfl⟩, by decide +kernel, by decide +kernel, by decide +kernel⟩
set_option maxRecDepth 20000 in
theorem cv_RX5_140 : xw_cv RX5 140 3 yX3_look cX3_look 2 (some .int) 1 := ⟨by decide +kernel, ⟨_, rfl, rfl⟩, by decide +kernel, by decide +kernel, by decide +kernel⟩
set_option maxRecDepth 20000 in
theorem cv_RX5_144 : xw_cv RX5 144 1 yX1_hasStopped cX1_hasStopped 3 (some .boolean) 0 := ⟨by decide +kernel, ⟨_, rfl, rfl⟩, by decide +kernel, by decide +kernel, by decide +kernel⟩
set_option maxRecDepth 20000 in
theorem cv_RX5_147 : xw_cv RX5 147 1 yX1_allAreDone cX1_allAreDone 1 (some .boolean) 0 := ⟨by decide +kernel, ⟨_, rfl, rfl⟩, by decide +kernel, by decide +kernel, by decide +kernel⟩
set_option maxRecDepth 20000 in
theorem cv_RX5_170 : xw_cv RX5 170 3 yX3_find cX3_find 3 (some .int) 1 := ⟨by decide +kernel, ⟨_, rfl, rfl⟩, by decide +kernel, by decide +kernel, by decide +kernel⟩
set_option maxRecDepth 20000 in
theorem cv_RX5_173 : xw_cv RX5 173 1 yX1_becomeLike cX1_becomeLike 3 none 1 := ⟨by decide +kernel, ⟨_, rfl, rfl⟩, by decide +kernel, by decide +kernel, by decide +kernel⟩
set_option maxRecDepth 20000 in
theorem cv_RX5_181 : xw_cv RX5 181 5 yX5_time cX5_time 1 (some .int) 0 := ⟨by decide +kernel, ⟨_, rfl, rfl⟩, by decide +kernel, by decide +kernel, by decide +kernel⟩
set_option maxRecDepth 20000 in
theorem cv_RX5_184 : xw_cv RX5 184 5 yX5_channels cX5_channels 1 (some .int) 0 := ⟨by decide +kernel, ⟨_, rfl, rfl⟩, by decide +kernel, by decide +kernel, by decide +kernel⟩
set_option maxRecDepth 20000 in
theorem cv_RX5_187 : xw_cv RX5 187 5 yX5_fibers cX5_fibers 1 (some .int) 0 := ⟨by decide +kernel, ⟨_, rfl, rfl⟩, by decide +kernel, by decide +kernel, by decide +kernel⟩
set_option maxRecDepth 20000 in
theorem cv_RX5_190 : xw_cv RX5 190 5 yX5_done cX5_done 1 (some .int) 0 := ⟨by decide +kernel, ⟨_, rfl, rfl⟩, by decide +kernel, by decide +kernel, by decide +kernel⟩
set_option maxRecDepth 20000 in
theorem cv_RX5_193 : xw_cv RX5 193 5 yX5_idleTurns cX5_idleTurns 1 (some .int) 0 := ⟨by decide +kernel, ⟨_, rfl, rfl⟩, by decide +kernel, by decide +kernel, by decide +kernel⟩
set_option maxRecDepth 20000 in
theorem cv_RX5_196 : xw_cv RX5 196 5 yX5_next cX5_next 1 (some .int) 0 := ⟨by decide +kernel, ⟨_, rfl, rfl⟩, by decide +kernel, by decide +kernel, by decide +kernel⟩
set_option maxRecDepth 20000 in
theorem cv_RX5_199 : xw_cv RX5 199 5 yX5_isStuck cX5_isStuck 1 (some .boolean) 0 := ⟨by decide +kernel, ⟨_, rfl, rfl⟩, by decide +kernel, by decide +kernel, by decide +kernel⟩
set_option maxRecDepth 20000 in
theorem cv_RX5_202 : xw_cv RX5 202 5 yX5_turnsUntilStuck cX5_turnsUntilStuck 2 (some .int) 0 := ⟨by decide +kernel, ⟨_, rfl, rfl⟩, by decide +kernel, by decide +kernel, by decide +kernel⟩
set_option maxRecDepth 20000 in
theorem cv_RX5_205 : xw_cv RX5 205 5 yX5_held cX5_held 2 (some .int) 1 := ⟨by decide +kernel, ⟨_, rfl, rfl⟩, by decide +kernel, by decide +kernel, by decide +kernel⟩
set_option maxRecDepth 20000 in
theorem cv_RX5_208 : xw_cv RX5 208 5 yX5_valueAt cX5_valueAt 4 (some .int) 2 := ⟨by decide +kernel, ⟨_, rfl, rfl⟩, by decide +kernel, by decide +kernel, by decide +kernel⟩
set_option maxRecDepth 20000 in
theorem cv_RX5_212 : xw_cv RX5 212 5 yX5_sendersAt cX5_sendersAt 2 (some .int) 1 := ⟨by decide +kernel, ⟨_, rfl, rfl⟩, by decide +kernel, by decide +kernel, by decide +kernel⟩
set_option maxRecDepth 20000 in
theorem cv_RX5_215 : xw_cv RX5 215 5 yX5_takersAt cX5_takersAt 2 (some .int) 1 := ⟨by decide +kernel, ⟨_, rfl, rfl⟩, by decide +kernel, by decide +kernel, by decide +kernel⟩
set_option maxRecDepth 20000 in
theorem cv_RX5_218 : xw_cv RX5 218 5 yX5_placesWanted cX5_placesWanted 4 (some .int) 1 := ⟨by decide +kernel, ⟨_, rfl, rfl⟩, by decide +kernel, by decide +kernel, by decide +kernel⟩
set_option maxRecDepth 20000 in
theorem cv_RX5_221 : xw_cv RX5 221 5 yX5_stateOf cX5_stateOf 2 (some .int) 1 := ⟨by decide +kernel, ⟨_, rfl, rfl⟩, by decide +kernel, by decide +kernel, by decide +kernel⟩
set_option maxRecDepth 20000 in
theorem cv_RX5_224 : xw_cv RX5 224 5 yX5_placeOf cX5_placeOf 2 (some .int) 1 := ⟨by decide +kernel, ⟨_, rfl, rfl⟩, by decide +kernel, by decide +kernel, by decide +kernel⟩
set_option maxRecDepth 20000 in
theorem cv_RX5_227 : xw_cv RX5 227 5 yX5_sumOf cX5_sumOf 2 (some .int) 1 := ⟨by decide +kernel, ⟨_, rfl, rfl⟩, by decide +kernel, by decide +kernel, by decide +kernel⟩
set_option maxRecDepth 20000 in
theorem cv_RX5_230 : xw_cv RX5 230 5 yX5_stepsDone cX5_stepsDone 2 (some .int) 1 := ⟨by decide +kernel, ⟨_, rfl, rfl⟩, by decide +kernel, by decide +kernel, by decide +kernel⟩
set_option maxRecDepth 20000 in
theorem cv_RX5_233 : xw_cv RX5 233 5 yX5_turnsOf cX5_turnsOf 2 (some .int) 1 := ⟨by decide +kernel, ⟨_, rfl, rfl⟩, by decide +kernel, by decide +kernel, by decide +kernel⟩
set_option maxRecDepth 20000 in
theorem cv_RX5_236 : xw_cv RX5 236 5 yX5_placeInLine cX5_placeInLine 2 (some .int) 1 := ⟨by decide +kernel, ⟨_, rfl, rfl⟩, by decide +kernel, by decide +kernel, by decide +kernel⟩
set_option maxRecDepth 20000 in
theorem cv_RX5_239 : xw_cv RX5 239 5 yX5_turnsUntilDone cX5_turnsUntilDone 4 (some .int) 1 := ⟨by decide +kernel, ⟨_, rfl, rfl⟩, by decide +kernel, by decide +kernel, by decide +kernel⟩
set_option maxRecDepth 20000 in
theorem cv_RX5_242 : xw_cv RX5 242 5 yX5_isChannel cX5_isChannel 2 (some .boolean) 1 := ⟨by decide +kernel, ⟨_, rfl, rfl⟩, by decide +kernel, by decide +kernel, by decide +kernel⟩
set_option maxRecDepth 20000 in
theorem cv_RX5_247 : xw_cv RX5 247 5 yX5_isFiber cX5_isFiber 2 (some .boolean) 1 := ⟨by decide +kernel, ⟨_, rfl, rfl⟩, by decide +kernel, by decide +kernel, by decide +kernel⟩
set_option maxRecDepth 20000 in
theorem th_RX5_19_21 : xw_th RX5 19 21 23 "java/lang/IllegalArgumentException" "places is not 1 to 4" := ⟨by decide +kernel, by decide +kernel, by decide +kernel, by decide +kernel, by decide +kernel, by decide +kernel⟩
set_option maxRecDepth 20000 in
theorem th_RX5_19_57 : xw_th RX5 19 57 23 "java/lang/IllegalArgumentException" "there is no such kind, or one or two does not fit it" := ⟨by decide +kernel, by decide +kernel, by decide +kernel, by decide +kernel, by decide +kernel, by decide +kernel⟩
set_option maxRecDepth 20000 in
theorem th_RX5_19_94 : xw_th RX5 19 94 23 "java/lang/IllegalArgumentException" "value is not -999 to 999" := ⟨by decide +kernel, by decide +kernel, by decide +kernel, by decide +kernel, by decide +kernel, by decide +kernel⟩
set_option maxRecDepth 20000 in
theorem th_RX5_19_252 : xw_th RX5 19 252 23 "java/lang/IllegalArgumentException" "turns is not 1 to 60" := ⟨by decide +kernel, by decide +kernel, by decide +kernel, by decide +kernel, by decide +kernel, by decide +kernel⟩
set_option maxRecDepth 20000 in
theorem th_RX5_30_32 : xw_th RX5 30 32 34 "java/lang/IllegalStateException" "there are 4 channels" := ⟨by decide +kernel, by decide +kernel, by decide +kernel, by decide +kernel, by decide +kernel, by decide +kernel⟩
set_option maxRecDepth 20000 in
theorem th_RX5_30_47 : xw_th RX5 30 47 34 "java/lang/IllegalStateException" "there are 8 fibers" := ⟨by decide +kernel, by decide +kernel, by decide +kernel, by decide +kernel, by decide +kernel, by decide +kernel⟩
set_option maxRecDepth 20000 in
theorem th_RX5_30_68 : xw_th RX5 30 68 34 "java/lang/IllegalStateException" "the fiber has 12 steps" := ⟨by decide +kernel, by decide +kernel, by decide +kernel, by decide +kernel, by decide +kernel, by decide +kernel⟩
set_option maxRecDepth 20000 in
theorem th_RX5_30_100 : xw_th RX5 30 100 34 "java/lang/IllegalStateException" "the channel has no room" := ⟨by decide +kernel, by decide +kernel, by decide +kernel, by decide +kernel, by decide +kernel, by decide +kernel⟩
set_option maxRecDepth 20000 in
theorem th_RX5_150_152 : xw_th RX5 150 152 154 "java/lang/IndexOutOfBoundsException" "there is no such drop" := ⟨by decide +kernel, by decide +kernel, by decide +kernel, by decide +kernel, by decide +kernel, by decide +kernel⟩
set_option maxRecDepth 20000 in
theorem th_RX5_150_245 : xw_th RX5 150 245 154 "java/lang/IndexOutOfBoundsException" "there is no such channel" := ⟨by decide +kernel, by decide +kernel, by decide +kernel, by decide +kernel, by decide +kernel, by decide +kernel⟩
set_option maxRecDepth 20000 in
theorem th_RX5_150_250 : xw_th RX5 150 250 154 "java/lang/IndexOutOfBoundsException" "there is no such fiber" := ⟨by decide +kernel, by decide +kernel, by decide +kernel, by decide +kernel, by decide +kernel, by decide +kernel⟩
