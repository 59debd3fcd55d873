set_option maxRecDepth 20000 in
theorem fl_RL_9 : xw_fl RL 9 7 2 := ⟨_, rfl, by decide, rfl, lw_g_in (by decide +kernel) (by decide +kernel)⟩
set_option maxRecDepth 20000 in
theorem fl_RL_15 : xw_fl RL 15 7 4 := ⟨_, rfl, by decide, rfl, lw_g_in (by decide +kernel) (by decide +kernel)⟩
set_option maxRecDepth 20000 in
theorem fl_RL_44 : xw_fl RL 44 6 0 := ⟨_, rfl, by decide, rfl, lw_g_in (by decide +kernel) (by decide +kernel)⟩
set_option maxRecDepth 20000 in
theorem fl_RL_64 : xw_fl RL 64 7 3 := ⟨_, rfl, by decide, rfl, lw_g_in (by decide +kernel) (by decide +kernel)⟩
set_option maxRecDepth 20000 in
theorem fl_RL_152 : xw_fl RL 152 6 5 := ⟨_, rfl, by decide, rfl, lw_g_in (by decide +kernel) (by decide +kernel)⟩
set_option maxRecDepth 20000 in
theorem fl_RX6_9 : xw_fl RX6 9 6 0 := ⟨_, rfl, by decide, rfl, lw_g_in (by decide +kernel) (by decide +kernel)⟩
set_option maxRecDepth 20000 in
theorem fl_RX6_15 : xw_fl RX6 15 6 1 := ⟨_, rfl, by decide, rfl, lw_g_in (by decide +kernel) (by decide +kernel)⟩
set_option maxRecDepth 20000 in
theorem fl_RX6_18 : xw_fl RX6 18 6 4 := ⟨_, rfl, by decide, rfl, lw_g_in (by decide +kernel) (by decide +kernel)⟩
set_option maxRecDepth 20000 in
theorem fl_RX7_7 : xw_fl RX7 7 7 2 := ⟨_, rfl, by decide, rfl, lw_g_in (by decide +kernel) (by decide +kernel)⟩
set_option maxRecDepth 20000 in
theorem fl_RX7_14 : xw_fl RX7 14 7 3 := ⟨_, rfl, by decide, rfl, lw_g_in (by decide +kernel) (by decide +kernel)⟩
set_option maxRecDepth 20000 in
theorem fl_RX7_20 : xw_fl RX7 20 7 4 := ⟨_, rfl, by decide, rfl, lw_g_in (by decide +kernel) (by decide +kernel)⟩
set_option maxRecDepth 20000 in
theorem fl_RX7_24 : xw_fl RX7 24 7 5 := ⟨_, rfl, by decide, rfl, lw_g_in (by decide +kernel) (by decide +kernel)⟩
set_option maxRecDepth 20000 in
theorem fl_RX7_27 : xw_fl RX7 27 7 6 := ⟨_, rfl, by decide, rfl, lw_g_in (by decide +kernel) (by decide +kernel)⟩
set_option maxRecDepth 20000 in
theorem fl_RX7_31 : xw_fl RX7 31 7 0 := ⟨_, rfl, by decide, rfl, lw_g_in (by decide +kernel) (by decide +kernel)⟩
set_option maxRecDepth 20000 in
theorem fl_RX7_35 : xw_fl RX7 35 7 1 := ⟨_, rfl, by decide, rfl, lw_g_in (by decide +kernel) (by decide +kernel)⟩
set_option maxRecDepth 20000 in
theorem fl_RX7_43 : xw_fl RX7 43 6 0 := ⟨_, rfl, by decide, rfl, lw_g_in (by decide +kernel) (by decide +kernel)⟩
set_option maxRecDepth 20000 in
theorem fl_RX7_46 : xw_fl RX7 46 6 1 := ⟨_, rfl, by decide, rfl, lw_g_in (by decide +kernel) (by decide +kernel)⟩
set_option maxRecDepth 20000 in
theorem fl_RX7_49 : xw_fl RX7 49 6 2 := ⟨_, rfl, by decide, rfl, lw_g_in (by decide +kernel) (by decide +kernel)⟩
set_option maxRecDepth 20000 in
theorem fl_RX7_52 : xw_fl RX7 52 6 3 := ⟨_, rfl, by decide, rfl, lw_g_in (by decide +kernel) (by decide +kernel)⟩
set_option maxRecDepth 20000 in
theorem fl_RX7_55 : xw_fl RX7 55 6 4 := ⟨_, rfl, by decide, rfl, lw_g_in (by decide +kernel) (by decide +kernel)⟩
set_option maxRecDepth 20000 in
theorem fl_RX7_58 : xw_fl RX7 58 6 5 := ⟨_, rfl, by decide, rfl, lw_g_in (by decide +kernel) (by decide +kernel)⟩
set_option maxRecDepth 20000 in
theorem fl_RX7_61 : xw_fl RX7 61 6 6 := ⟨_, rfl, by decide, rfl, lw_g_in (by decide +kernel) (by decide +kernel)⟩
set_option maxRecDepth 20000 in
theorem fl_RX7_64 : xw_fl RX7 64 6 7 := ⟨_, rfl, by decide, rfl, lw_g_in (by decide +kernel) (by decide +kernel)⟩
set_option maxRecDepth 20000 in
theorem zpf_6_2 : zw_pf 6 2 := ⟨_, rfl, rfl, by decide +kernel⟩
set_option maxRecDepth 20000 in
theorem zpf_6_3 : zw_pf 6 3 := ⟨_, rfl, rfl, by decide +kernel⟩
set_option maxRecDepth 20000 in
theorem zpf_6_4 : zw_pf 6 4 := ⟨_, rfl, rfl, by decide +kernel⟩
set_option maxRecDepth 20000 in
theorem zpf_6_5 : zw_pf 6 5 := ⟨_, rfl, rfl, by decide +kernel⟩
set_option maxRecDepth 20000 in
theorem zpf_6_6 : zw_pf 6 6 := ⟨_, rfl, rfl, by decide +kernel⟩
set_option maxRecDepth 20000 in
theorem zpf_6_7 : zw_pf 6 7 := ⟨_, rfl, rfl, by decide +kernel⟩
set_option maxRecDepth 20000 in
theorem zpf_7_0 : zw_pf 7 0 := ⟨_, rfl, rfl, by decide +kernel⟩
set_option maxRecDepth 20000 in
theorem zpf_7_1 : zw_pf 7 1 := ⟨_, rfl, rfl, by decide +kernel⟩
set_option maxRecDepth 20000 in
theorem zpr_6_1 : zw_pr 6 1 := ⟨_, rfl, rfl, by decide +kernel⟩
set_option maxRecDepth 20000 in
theorem zpr_7_2 : zw_pr 7 2 := ⟨_, rfl, rfl, by decide +kernel⟩
set_option maxRecDepth 20000 in
theorem zpr_7_5 : zw_pr 7 5 := ⟨_, rfl, rfl, by decide +kernel⟩
set_option maxRecDepth 20000 in
theorem zpr_7_6 : zw_pr 7 6 := ⟨_, rfl, rfl, by decide +kernel⟩
set_option maxRecDepth 20000 in
theorem cv_RX7_71 : xw_cv RX7 71 7 yX7_ready cX7_ready 2 none 1 := ⟨by decide +kernel, ⟨_, rfl, rfl⟩, by decide +kernel, by decide +kernel, by decide +kernel⟩
set_option maxRecDepth 20000 in
theorem cv_RX7_78 : xw_cv RX7 78 7 yX7_wake cX7_wake 6 none 2 := ⟨by decide +kernel, ⟨_, rfl, rfl⟩, by decide +kernel, by decide +kernel, by decide +kernel⟩
set_option maxRecDepth 20000 in
theorem cv_RX7_82 : xw_cv RX7 82 7 yX7_isSent cX7_isSent 3 (some .boolean) 2 := ⟨by decide +kernel, ⟨_, rfl, rfl⟩, by decide +kernel, by decide +kernel, by decide +kernel⟩
set_option maxRecDepth 20000 in
theorem cv_RX7_86 : xw_cv RX7 86 7 yX7_waitIn cX7_waitIn 3 none 2 := ⟨by decide +kernel, ⟨_, rfl, rfl⟩, by decide +kernel, by decide +kernel, by decide +kernel⟩
set_option maxRecDepth 20000 in
theorem cv_RX7_89 : xw_cv RX7 89 7 yX7_go cX7_go 6 none 1 := ⟨by decide +kernel, ⟨_, rfl, rfl⟩, by decide +kernel, by decide +kernel, by decide +kernel⟩
set_option maxRecDepth 20000 in
theorem cv_RX7_92 : xw_cv RX7 92 7 yX7_pass cX7_pass 3 (some .boolean) 0 := ⟨by decide +kernel, ⟨_, rfl, rfl⟩, by decide +kernel, by decide +kernel, by decide +kernel⟩
set_option maxRecDepth 20000 in
theorem cs_RX7_67 : xw_cs RX7 67 yX7_with cX7_with 4 (some (.array .int)) 2 := ⟨by decide +kernel, by decide +kernel, by decide +kernel, by decide +kernel, by decide +kernel⟩
set_option maxRecDepth 20000 in
theorem cs_RX7_75 : xw_cs RX7 75 yX7_without cX7_without 4 (some (.array .int)) 2 := ⟨by decide +kernel, by decide +kernel, by decide +kernel, by decide +kernel, by decide +kernel⟩
