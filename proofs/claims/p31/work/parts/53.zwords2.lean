set_option maxRecDepth 20000 in
theorem kd_350 : xw_kd 350 = 5 := by decide +kernel
set_option maxRecDepth 20000 in
theorem cv_RL_25 : xw_cv RL 25 7 yX7_addChannel cX7_addChannel 4 none 1 := ⟨by decide +kernel, ⟨_, rfl, rfl⟩, by decide +kernel, by decide +kernel, by decide +kernel⟩
set_option maxRecDepth 20000 in
theorem cv_RL_29 : xw_cv RL 29 5 yX5_addChannel cX5_addChannel 3 (some .int) 1 := ⟨by decide +kernel, ⟨_, rfl, rfl⟩, by decide +kernel, by decide +kernel, by decide +kernel⟩
set_option maxRecDepth 20000 in
theorem cv_RL_34 : xw_cv RL 34 7 yX7_addFiber cX7_addFiber 3 none 0 := ⟨by decide +kernel, ⟨_, rfl, rfl⟩, by decide +kernel, by decide +kernel, by decide +kernel⟩
set_option maxRecDepth 20000 in
theorem cv_RL_37 : xw_cv RL 37 5 yX5_addFiber cX5_addFiber 2 (some .int) 0 := ⟨by decide +kernel, ⟨_, rfl, rfl⟩, by decide +kernel, by decide +kernel, by decide +kernel⟩
set_option maxRecDepth 20000 in
theorem cv_RL_40 : xw_cv RL 40 7 yX7_canAdd cX7_canAdd 5 (some .boolean) 4 := ⟨by decide +kernel, ⟨_, rfl, rfl⟩, by decide +kernel, by decide +kernel, by decide +kernel⟩
set_option maxRecDepth 20000 in
theorem cv_RL_50 : xw_cv RL 50 7 yX7_addStep cX7_addStep 9 none 4 := ⟨by decide +kernel, ⟨_, rfl, rfl⟩, by decide +kernel, by decide +kernel, by decide +kernel⟩
set_option maxRecDepth 20000 in
theorem cv_RL_54 : xw_cv RL 54 5 yX5_addStep cX5_addStep 7 (some .int) 4 := ⟨by decide +kernel, ⟨_, rfl, rfl⟩, by decide +kernel, by decide +kernel, by decide +kernel⟩
set_option maxRecDepth 20000 in
theorem cv_RL_57 : xw_cv RL 57 7 yX7_isSent cX7_isSent 3 (some .boolean) 2 := ⟨by decide +kernel, ⟨_, rfl, rfl⟩, by decide +kernel, by decide +kernel, by decide +kernel⟩
set_option maxRecDepth 20000 in
theorem cv_RL_61 : xw_cv RL 61 5 yX5_pour cX5_pour 4 (some .int) 2 := ⟨by decide +kernel, ⟨_, rfl, rfl⟩, by decide +kernel, by decide +kernel, by decide +kernel⟩
set_option maxRecDepth 20000 in
theorem cv_RL_67 : xw_cv RL 67 5 yX5_run cX5_run 4 (some .int) 1 := ⟨by decide +kernel, ⟨_, rfl, rfl⟩, by decide +kernel, by decide +kernel, by decide +kernel⟩
set_option maxRecDepth 20000 in
theorem cv_RL_70 : xw_cv RL 70 7 yX7_pass_ cX7_pass_ 4 (some .int) 1 := ⟨by decide +kernel, ⟨_, rfl, rfl⟩, by decide +kernel, by decide +kernel, by decide +kernel⟩
set_option maxRecDepth 20000 in
theorem cv_RL_91 : xw_cv RL 91 5 yX5_digest cX5_digest 7 (some .long) 0 := ⟨by decide +kernel, ⟨_, rfl, rfl⟩, by decide +kernel, by decide +kernel, by decide +kernel⟩
set_option maxRecDepth 20000 in
theorem cv_RL_95 : xw_cv RL 95 5 yX5_fibers cX5_fibers 1 (some .int) 0 := ⟨by decide +kernel, ⟨_, rfl, rfl⟩, by decide +kernel, by decide +kernel, by decide +kernel⟩
set_option maxRecDepth 20000 in
theorem cv_RL_97 : xw_cv RL 97 5 yX5_idleTurns cX5_idleTurns 1 (some .int) 0 := ⟨by decide +kernel, ⟨_, rfl, rfl⟩, by decide +kernel, by decide +kernel, by decide +kernel⟩
set_option maxRecDepth 20000 in
theorem cv_RL_100 : xw_cv RL 100 5 yX5_stateOf cX5_stateOf 2 (some .int) 1 := ⟨by decide +kernel, ⟨_, rfl, rfl⟩, by decide +kernel, by decide +kernel, by decide +kernel⟩
set_option maxRecDepth 20000 in
theorem cv_RL_103 : xw_cv RL 103 5 yX5_placeInLine cX5_placeInLine 2 (some .int) 1 := ⟨by decide +kernel, ⟨_, rfl, rfl⟩, by decide +kernel, by decide +kernel, by decide +kernel⟩
set_option maxRecDepth 20000 in
theorem cv_RL_106 : xw_cv RL 106 5 yX5_turnsOf cX5_turnsOf 2 (some .int) 1 := ⟨by decide +kernel, ⟨_, rfl, rfl⟩, by decide +kernel, by decide +kernel, by decide +kernel⟩
set_option maxRecDepth 20000 in
theorem cv_RL_109 : xw_cv RL 109 5 yX5_placeOf cX5_placeOf 2 (some .int) 1 := ⟨by decide +kernel, ⟨_, rfl, rfl⟩, by decide +kernel, by decide +kernel, by decide +kernel⟩
set_option maxRecDepth 20000 in
theorem cv_RL_112 : xw_cv RL 112 5 yX5_next cX5_next 1 (some .int) 0 := ⟨by decide +kernel, ⟨_, rfl, rfl⟩, by decide +kernel, by decide +kernel, by decide +kernel⟩
set_option maxRecDepth 20000 in
theorem cv_RL_115 : xw_cv RL 115 5 yX5_turnsUntilDone cX5_turnsUntilDone 4 (some .int) 1 := ⟨by decide +kernel, ⟨_, rfl, rfl⟩, by decide +kernel, by decide +kernel, by decide +kernel⟩
set_option maxRecDepth 20000 in
theorem cv_RL_118 : xw_cv RL 118 5 yX5_done cX5_done 1 (some .int) 0 := ⟨by decide +kernel, ⟨_, rfl, rfl⟩, by decide +kernel, by decide +kernel, by decide +kernel⟩
set_option maxRecDepth 20000 in
theorem cv_RL_121 : xw_cv RL 121 5 yX5_time cX5_time 1 (some .int) 0 := ⟨by decide +kernel, ⟨_, rfl, rfl⟩, by decide +kernel, by decide +kernel, by decide +kernel⟩
set_option maxRecDepth 20000 in
theorem cv_RL_124 : xw_cv RL 124 5 yX5_isStuck cX5_isStuck 1 (some .boolean) 0 := ⟨by decide +kernel, ⟨_, rfl, rfl⟩, by decide +kernel, by decide +kernel, by decide +kernel⟩
set_option maxRecDepth 20000 in
theorem cv_RL_128 : xw_cv RL 128 5 yX5_channels cX5_channels 1 (some .int) 0 := ⟨by decide +kernel, ⟨_, rfl, rfl⟩, by decide +kernel, by decide +kernel, by decide +kernel⟩
set_option maxRecDepth 20000 in
theorem cv_RL_131 : xw_cv RL 131 5 yX5_sendersAt cX5_sendersAt 2 (some .int) 1 := ⟨by decide +kernel, ⟨_, rfl, rfl⟩, by decide +kernel, by decide +kernel, by decide +kernel⟩
set_option maxRecDepth 20000 in
theorem cv_RL_134 : xw_cv RL 134 5 yX5_takersAt cX5_takersAt 2 (some .int) 1 := ⟨by decide +kernel, ⟨_, rfl, rfl⟩, by decide +kernel, by decide +kernel, by decide +kernel⟩
set_option maxRecDepth 20000 in
theorem cv_RL_137 : xw_cv RL 137 5 yX5_placesWanted cX5_placesWanted 4 (some .int) 1 := ⟨by decide +kernel, ⟨_, rfl, rfl⟩, by decide +kernel, by decide +kernel, by decide +kernel⟩
set_option maxRecDepth 20000 in
theorem cv_RL_140 : xw_cv RL 140 5 yX5_held cX5_held 2 (some .int) 1 := ⟨by decide +kernel, ⟨_, rfl, rfl⟩, by decide +kernel, by decide +kernel, by decide +kernel⟩
set_option maxRecDepth 20000 in
theorem cv_RL_143 : xw_cv RL 143 5 yX5_sumIn cX5_sumIn 4 (some .int) 2 := ⟨by decide +kernel, ⟨_, rfl, rfl⟩, by decide +kernel, by decide +kernel, by decide +kernel⟩
set_option maxRecDepth 20000 in
theorem cv_RL_146 : xw_cv RL 146 5 yX5_turnsUntilStuck cX5_turnsUntilStuck 2 (some .int) 0 := ⟨by decide +kernel, ⟨_, rfl, rfl⟩, by decide +kernel, by decide +kernel, by decide +kernel⟩
set_option maxRecDepth 20000 in
theorem cv_RL_149 : xw_cv RL 149 5 yX5_stepsDone cX5_stepsDone 2 (some .int) 1 := ⟨by decide +kernel, ⟨_, rfl, rfl⟩, by decide +kernel, by decide +kernel, by decide +kernel⟩
set_option maxRecDepth 20000 in
theorem cv_RL_156 : xw_cv RL 156 7 yX7_pass cX7_pass 3 (some .boolean) 0 := ⟨by decide +kernel, ⟨_, rfl, rfl⟩, by decide +kernel, by decide +kernel, by decide +kernel⟩
set_option maxRecDepth 20000 in
theorem cv_RL_158 : xw_cv RL 158 5 yX5_sumOf cX5_sumOf 2 (some .int) 1 := ⟨by decide +kernel, ⟨_, rfl, rfl⟩, by decide +kernel, by decide +kernel, by decide +kernel⟩
set_option maxRecDepth 20000 in
theorem cv_RL_161 : xw_cv RL 161 7 yX7_isSame cX7_isSame 6 (some .boolean) 1 := ⟨by decide +kernel, ⟨_, rfl, rfl⟩, by decide +kernel, by decide +kernel, by decide +kernel⟩
set_option maxRecDepth 20000 in
theorem cv_RX7_96 : xw_cv RX7 96 5 yX5_held cX5_held 2 (some .int) 1 := ⟨by decide +kernel, ⟨_, rfl, rfl⟩, by decide +kernel, by decide +kernel, by decide +kernel⟩
set_option maxRecDepth 20000 in
theorem cv_RX7_102 : xw_cv RX7 102 5 yX5_sendersAt cX5_sendersAt 2 (some .int) 1 := ⟨by decide +kernel, ⟨_, rfl, rfl⟩, by decide +kernel, by decide +kernel, by decide +kernel⟩
set_option maxRecDepth 20000 in
theorem cv_RX7_105 : xw_cv RX7 105 7 yX7_waitingAt cX7_waitingAt 8 (some .int) 2 := ⟨by decide +kernel, ⟨_, rfl, rfl⟩, by decide +kernel, by decide +kernel, by decide +kernel⟩
set_option maxRecDepth 20000 in
theorem cv_RX7_109 : xw_cv RX7 109 5 yX5_takersAt cX5_takersAt 2 (some .int) 1 := ⟨by decide +kernel, ⟨_, rfl, rfl⟩, by decide +kernel, by decide +kernel, by decide +kernel⟩
set_option maxRecDepth 20000 in
theorem cv_RX7_112 : xw_cv RX7 112 5 yX5_valueAt cX5_valueAt 4 (some .int) 2 := ⟨by decide +kernel, ⟨_, rfl, rfl⟩, by decide +kernel, by decide +kernel, by decide +kernel⟩
set_option maxRecDepth 20000 in
theorem cv_RX7_115 : xw_cv RX7 115 5 yX5_stateOf cX5_stateOf 2 (some .int) 1 := ⟨by decide +kernel, ⟨_, rfl, rfl⟩, by decide +kernel, by decide +kernel, by decide +kernel⟩
set_option maxRecDepth 20000 in
theorem cv_RX7_118 : xw_cv RX7 118 5 yX5_placeOf cX5_placeOf 2 (some .int) 1 := ⟨by decide +kernel, ⟨_, rfl, rfl⟩, by decide +kernel, by decide +kernel, by decide +kernel⟩
set_option maxRecDepth 20000 in
theorem cv_RX7_121 : xw_cv RX7 121 5 yX5_sumOf cX5_sumOf 2 (some .int) 1 := ⟨by decide +kernel, ⟨_, rfl, rfl⟩, by decide +kernel, by decide +kernel, by decide +kernel⟩
set_option maxRecDepth 20000 in
theorem cv_RX7_124 : xw_cv RX7 124 5 yX5_stepsDone cX5_stepsDone 2 (some .int) 1 := ⟨by decide +kernel, ⟨_, rfl, rfl⟩, by decide +kernel, by decide +kernel, by decide +kernel⟩
set_option maxRecDepth 20000 in
theorem cv_RX7_127 : xw_cv RX7 127 5 yX5_turnsOf cX5_turnsOf 2 (some .int) 1 := ⟨by decide +kernel, ⟨_, rfl, rfl⟩, by decide +kernel, by decide +kernel, by decide +kernel⟩
set_option maxRecDepth 20000 in
theorem cv_RX7_130 : xw_cv RX7 130 5 yX5_placeInLine cX5_placeInLine 2 (some .int) 1 := ⟨by decide +kernel, ⟨_, rfl, rfl⟩, by decide +kernel, by decide +kernel, by decide +kernel⟩
set_option maxRecDepth 20000 in
theorem cv_RX7_133 : xw_cv RX7 133 5 yX5_time cX5_time 1 (some .int) 0 := ⟨by decide +kernel, ⟨_, rfl, rfl⟩, by decide +kernel, by decide +kernel, by decide +kernel⟩
set_option maxRecDepth 20000 in
theorem cv_RX7_136 : xw_cv RX7 136 5 yX5_channels cX5_channels 1 (some .int) 0 := ⟨by decide +kernel, ⟨_, rfl, rfl⟩, by decide +kernel, by decide +kernel, by decide +kernel⟩
set_option maxRecDepth 20000 in
theorem cv_RX7_139 : xw_cv RX7 139 5 yX5_fibers cX5_fibers 1 (some .int) 0 := ⟨by decide +kernel, ⟨_, rfl, rfl⟩, by decide +kernel, by decide +kernel, by decide +kernel⟩
set_option maxRecDepth 20000 in
theorem cv_RX7_141 : xw_cv RX7 141 5 yX5_done cX5_done 1 (some .int) 0 := ⟨by decide +kernel, ⟨_, rfl, rfl⟩, by decide +kernel, by decide +kernel, by decide +kernel⟩
set_option maxRecDepth 20000 in
theorem cv_RX7_144 : xw_cv RX7 144 7 yX7_done cX7_done 6 (some .int) 0 := ⟨by decide +kernel, ⟨_, rfl, rfl⟩, by decide +kernel, by decide +kernel, by decide +kernel⟩
set_option maxRecDepth 20000 in
theorem cv_RX7_145 : xw_cv RX7 145 5 yX5_idleTurns cX5_idleTurns 1 (some .int) 0 := ⟨by decide +kernel, ⟨_, rfl, rfl⟩, by decide +kernel, by decide +kernel, by decide +kernel⟩
set_option maxRecDepth 20000 in
theorem cv_RX7_148 : xw_cv RX7 148 5 yX5_next cX5_next 1 (some .int) 0 := ⟨by decide +kernel, ⟨_, rfl, rfl⟩, by decide +kernel, by decide +kernel, by decide +kernel⟩
set_option maxRecDepth 20000 in
theorem cv_RX7_151 : xw_cv RX7 151 5 yX5_isStuck cX5_isStuck 1 (some .boolean) 0 := ⟨by decide +kernel, ⟨_, rfl, rfl⟩, by decide +kernel, by decide +kernel, by decide +kernel⟩
set_option maxRecDepth 20000 in
theorem cv_RX7_154 : xw_cv RX7 154 7 yX7_isStuck cX7_isStuck 6 (some .boolean) 0 := ⟨by decide +kernel, ⟨_, rfl, rfl⟩, by decide +kernel, by decide +kernel, by decide +kernel⟩
set_option maxRecDepth 20000 in
theorem cv_RX7_155 : xw_cv RX7 155 5 yX5_meanTurns cX5_meanTurns 3 (some .double) 0 := ⟨by decide +kernel, ⟨_, rfl, rfl⟩, by decide +kernel, by decide +kernel, by decide +kernel⟩
set_option maxRecDepth 20000 in
theorem cs_RL_19 : xw_cs RL 19 yL_below cL_below 2 (some .int) 2 := ⟨by decide +kernel, by decide +kernel, by decide +kernel, by decide +kernel, by decide +kernel⟩
set_option maxRecDepth 20000 in
theorem cs_RL_78 : xw_cs RL 78 yL_cell cL_cell 2 (some .int) 2 := ⟨by decide +kernel, by decide +kernel, by decide +kernel, by decide +kernel, by decide +kernel⟩
set_option maxRecDepth 20000 in
theorem cs_RL_87 : xw_cs RL 87 yL_build cL_build 6 (some (.object "WaterFibersLaw$Sim")) 2 := ⟨by decide +kernel, by decide +kernel, by decide +kernel, by decide +kernel, by decide +kernel⟩
set_option maxRecDepth 20000 in
theorem cw_RL_82 : zw_cw RL 82 yL_act cL_act 13 (some .boolean) [(27, 90, 513, 73), (91, 144, 513, 73), (145, 392, 513, 73), (393, 463, 513, 73), (464, 512, 513, 73), (27, 90, 526, 75), (91, 144, 526, 75), (145, 392, 526, 75), (393, 463, 526, 75), (464, 512, 526, 75)] 3 := ⟨by decide +kernel, by decide +kernel, by decide +kernel, by decide +kernel⟩
set_option maxRecDepth 20000 in
theorem hx_L_act_73_1 : zw_ha RL [(27, 90, 513, 73), (91, 144, 513, 73), (145, 392, 513, 73), (393, 463, 513, 73), (464, 512, 513, 73), (27, 90, 526, 75), (91, 144, 526, 75), (145, 392, 526, 75), (393, 463, 526, 75), (464, 512, 526, 75)] 73 "java/lang/IllegalArgumentException" 513 := ⟨[], ⟨27, 90, 513, 73⟩, [⟨91, 144, 513, 73⟩, ⟨145, 392, 513, 73⟩, ⟨393, 463, 513, 73⟩, ⟨464, 512, 513, 73⟩, ⟨27, 90, 526, 75⟩, ⟨91, 144, 526, 75⟩, ⟨145, 392, 526, 75⟩, ⟨393, 463, 526, 75⟩, ⟨464, 512, 526, 75⟩], rfl, fun z hz => absurd hz List.not_mem_nil, by decide, by decide, by decide +kernel, rfl, by decide, by decide⟩
set_option maxRecDepth 20000 in
theorem hx_L_act_73_2 : zw_ha RL [(27, 90, 513, 73), (91, 144, 513, 73), (145, 392, 513, 73), (393, 463, 513, 73), (464, 512, 513, 73), (27, 90, 526, 75), (91, 144, 526, 75), (145, 392, 526, 75), (393, 463, 526, 75), (464, 512, 526, 75)] 73 "java/lang/IllegalStateException" 526 := ⟨[⟨27, 90, 513, 73⟩, ⟨91, 144, 513, 73⟩, ⟨145, 392, 513, 73⟩, ⟨393, 463, 513, 73⟩, ⟨464, 512, 513, 73⟩], ⟨27, 90, 526, 75⟩, [⟨91, 144, 526, 75⟩, ⟨145, 392, 526, 75⟩, ⟨393, 463, 526, 75⟩, ⟨464, 512, 526, 75⟩], rfl, (fun z hz => by
    simp only [List.mem_cons, List.not_mem_nil, or_false] at hz
    rcases hz with rfl | rfl | rfl | rfl | rfl
    · exact Or.inr ⟨by decide, "java/lang/IllegalArgumentException", by decide +kernel, by decide, by decide⟩
    · exact Or.inl (by decide)
    · exact Or.inl (by decide)
    · exact Or.inl (by decide)
    · exact Or.inl (by decide)), by decide, by decide, by decide +kernel, rfl, by decide, by decide⟩
set_option maxRecDepth 20000 in
theorem hx_L_act_126_1 : zw_ha RL [(27, 90, 513, 73), (91, 144, 513, 73), (145, 392, 513, 73), (393, 463, 513, 73), (464, 512, 513, 73), (27, 90, 526, 75), (91, 144, 526, 75), (145, 392, 526, 75), (393, 463, 526, 75), (464, 512, 526, 75)] 126 "java/lang/IllegalArgumentException" 513 := ⟨[⟨27, 90, 513, 73⟩], ⟨91, 144, 513, 73⟩, [⟨145, 392, 513, 73⟩, ⟨393, 463, 513, 73⟩, ⟨464, 512, 513, 73⟩, ⟨27, 90, 526, 75⟩, ⟨91, 144, 526, 75⟩, ⟨145, 392, 526, 75⟩, ⟨393, 463, 526, 75⟩, ⟨464, 512, 526, 75⟩], rfl, (fun z hz => by
    simp only [List.mem_cons, List.not_mem_nil, or_false] at hz
    rcases hz with rfl
    · exact Or.inl (by decide)), by decide, by decide, by decide +kernel, rfl, by decide, by decide⟩
set_option maxRecDepth 20000 in
theorem hx_L_act_126_2 : zw_ha RL [(27, 90, 513, 73), (91, 144, 513, 73), (145, 392, 513, 73), (393, 463, 513, 73), (464, 512, 513, 73), (27, 90, 526, 75), (91, 144, 526, 75), (145, 392, 526, 75), (393, 463, 526, 75), (464, 512, 526, 75)] 126 "java/lang/IllegalStateException" 526 := ⟨[⟨27, 90, 513, 73⟩, ⟨91, 144, 513, 73⟩, ⟨145, 392, 513, 73⟩, ⟨393, 463, 513, 73⟩, ⟨464, 512, 513, 73⟩, ⟨27, 90, 526, 75⟩], ⟨91, 144, 526, 75⟩, [⟨145, 392, 526, 75⟩, ⟨393, 463, 526, 75⟩, ⟨464, 512, 526, 75⟩], rfl, (fun z hz => by
    simp only [List.mem_cons, List.not_mem_nil, or_false] at hz
    rcases hz with rfl | rfl | rfl | rfl | rfl | rfl
    · exact Or.inl (by decide)
    · exact Or.inr ⟨by decide, "java/lang/IllegalArgumentException", by decide +kernel, by decide, by decide⟩
    · exact Or.inl (by decide)
    · exact Or.inl (by decide)
    · exact Or.inl (by decide)
    · exact Or.inl (by decide)), by decide, by decide, by decide +kernel, rfl, by decide, by decide⟩
set_option maxRecDepth 20000 in
theorem hx_L_act_369_1 : zw_ha RL [(27, 90, 513, 73), (91, 144, 513, 73), (145, 392, 513, 73), (393, 463, 513, 73), (464, 512, 513, 73), (27, 90, 526, 75), (91, 144, 526, 75), (145, 392, 526, 75), (393, 463, 526, 75), (464, 512, 526, 75)] 369 "java/lang/IllegalArgumentException" 513 := ⟨[⟨27, 90, 513, 73⟩, ⟨91, 144, 513, 73⟩], ⟨145, 392, 513, 73⟩, [⟨393, 463, 513, 73⟩, ⟨464, 512, 513, 73⟩, ⟨27, 90, 526, 75⟩, ⟨91, 144, 526, 75⟩, ⟨145, 392, 526, 75⟩, ⟨393, 463, 526, 75⟩, ⟨464, 512, 526, 75⟩], rfl, (fun z hz => by
    simp only [List.mem_cons, List.not_mem_nil, or_false] at hz
    rcases hz with rfl | rfl
    · exact Or.inl (by decide)
    · exact Or.inl (by decide)), by decide, by decide, by decide +kernel, rfl, by decide, by decide⟩
set_option maxRecDepth 20000 in
theorem hx_L_act_369_2 : zw_ha RL [(27, 90, 513, 73), (91, 144, 513, 73), (145, 392, 513, 73), (393, 463, 513, 73), (464, 512, 513, 73), (27, 90, 526, 75), (91, 144, 526, 75), (145, 392, 526, 75), (393, 463, 526, 75), (464, 512, 526, 75)] 369 "java/lang/IllegalStateException" 526 := ⟨[⟨27, 90, 513, 73⟩, ⟨91, 144, 513, 73⟩, ⟨145, 392, 513, 73⟩, ⟨393, 463, 513, 73⟩, ⟨464, 512, 513, 73⟩, ⟨27, 90, 526, 75⟩, ⟨91, 144, 526, 75⟩], ⟨145, 392, 526, 75⟩, [⟨393, 463, 526, 75⟩, ⟨464, 512, 526, 75⟩], rfl, (fun z hz => by
    simp only [List.mem_cons, List.not_mem_nil, or_false] at hz
    rcases hz with rfl | rfl | rfl | rfl | rfl | rfl | rfl
    · exact Or.inl (by decide)
    · exact Or.inl (by decide)
    · exact Or.inr ⟨by decide, "java/lang/IllegalArgumentException", by decide +kernel, by decide, by decide⟩
    · exact Or.inl (by decide)
    · exact Or.inl (by decide)
    · exact Or.inl (by decide)
    · exact Or.inl (by decide)), by decide, by decide, by decide +kernel, rfl, by decide, by decide⟩
set_option maxRecDepth 20000 in
theorem hx_L_act_439_1 : zw_ha RL [(27, 90, 513, 73), (91, 144, 513, 73), (145, 392, 513, 73), (393, 463, 513, 73), (464, 512, 513, 73), (27, 90, 526, 75), (91, 144, 526, 75), (145, 392, 526, 75), (393, 463, 526, 75), (464, 512, 526, 75)] 439 "java/lang/IllegalArgumentException" 513 := ⟨[⟨27, 90, 513, 73⟩, ⟨91, 144, 513, 73⟩, ⟨145, 392, 513, 73⟩], ⟨393, 463, 513, 73⟩, [⟨464, 512, 513, 73⟩, ⟨27, 90, 526, 75⟩, ⟨91, 144, 526, 75⟩, ⟨145, 392, 526, 75⟩, ⟨393, 463, 526, 75⟩, ⟨464, 512, 526, 75⟩], rfl, (fun z hz => by
    simp only [List.mem_cons, List.not_mem_nil, or_false] at hz
    rcases hz with rfl | rfl | rfl
    · exact Or.inl (by decide)
    · exact Or.inl (by decide)
    · exact Or.inl (by decide)), by decide, by decide, by decide +kernel, rfl, by decide, by decide⟩
set_option maxRecDepth 20000 in
theorem hx_L_act_439_2 : zw_ha RL [(27, 90, 513, 73), (91, 144, 513, 73), (145, 392, 513, 73), (393, 463, 513, 73), (464, 512, 513, 73), (27, 90, 526, 75), (91, 144, 526, 75), (145, 392, 526, 75), (393, 463, 526, 75), (464, 512, 526, 75)] 439 "java/lang/IllegalStateException" 526 := ⟨[⟨27, 90, 513, 73⟩, ⟨91, 144, 513, 73⟩, ⟨145, 392, 513, 73⟩, ⟨393, 463, 513, 73⟩, ⟨464, 512, 513, 73⟩, ⟨27, 90, 526, 75⟩, ⟨91, 144, 526, 75⟩, ⟨145, 392, 526, 75⟩], ⟨393, 463, 526, 75⟩, [⟨464, 512, 526, 75⟩], rfl, (fun z hz => by
    simp only [List.mem_cons, List.not_mem_nil, or_false] at hz
    rcases hz with rfl | rfl | rfl | rfl | rfl | rfl | rfl | rfl
    · exact Or.inl (by decide)
    · exact Or.inl (by decide)
    · exact Or.inl (by decide)
    · exact Or.inr ⟨by decide, "java/lang/IllegalArgumentException", by decide +kernel, by decide, by decide⟩
    · exact Or.inl (by decide)
    · exact Or.inl (by decide)
    · exact Or.inl (by decide)
    · exact Or.inl (by decide)), by decide, by decide, by decide +kernel, rfl, by decide, by decide⟩
set_option maxRecDepth 20000 in
theorem hx_L_act_495_1 : zw_ha RL [(27, 90, 513, 73), (91, 144, 513, 73), (145, 392, 513, 73), (393, 463, 513, 73), (464, 512, 513, 73), (27, 90, 526, 75), (91, 144, 526, 75), (145, 392, 526, 75), (393, 463, 526, 75), (464, 512, 526, 75)] 495 "java/lang/IllegalArgumentException" 513 := ⟨[⟨27, 90, 513, 73⟩, ⟨91, 144, 513, 73⟩, ⟨145, 392, 513, 73⟩, ⟨393, 463, 513, 73⟩], ⟨464, 512, 513, 73⟩, [⟨27, 90, 526, 75⟩, ⟨91, 144, 526, 75⟩, ⟨145, 392, 526, 75⟩, ⟨393, 463, 526, 75⟩, ⟨464, 512, 526, 75⟩], rfl, (fun z hz => by
    simp only [List.mem_cons, List.not_mem_nil, or_false] at hz
    rcases hz with rfl | rfl | rfl | rfl
    · exact Or.inl (by decide)
    · exact Or.inl (by decide)
    · exact Or.inl (by decide)
    · exact Or.inl (by decide)), by decide, by decide, by decide +kernel, rfl, by decide, by decide⟩
set_option maxRecDepth 20000 in
theorem hx_L_act_495_2 : zw_ha RL [(27, 90, 513, 73), (91, 144, 513, 73), (145, 392, 513, 73), (393, 463, 513, 73), (464, 512, 513, 73), (27, 90, 526, 75), (91, 144, 526, 75), (145, 392, 526, 75), (393, 463, 526, 75), (464, 512, 526, 75)] 495 "java/lang/IllegalStateException" 526 := ⟨[⟨27, 90, 513, 73⟩, ⟨91, 144, 513, 73⟩, ⟨145, 392, 513, 73⟩, ⟨393, 463, 513, 73⟩, ⟨464, 512, 513, 73⟩, ⟨27, 90, 526, 75⟩, ⟨91, 144, 526, 75⟩, ⟨145, 392, 526, 75⟩, ⟨393, 463, 526, 75⟩], ⟨464, 512, 526, 75⟩, [], rfl, (fun z hz => by
    simp only [List.mem_cons, List.not_mem_nil, or_false] at hz
    rcases hz with rfl | rfl | rfl | rfl | rfl | rfl | rfl | rfl | rfl
    · exact Or.inl (by decide)
    · exact Or.inl (by decide)
    · exact Or.inl (by decide)
    · exact Or.inl (by decide)
    · exact Or.inr ⟨by decide, "java/lang/IllegalArgumentException", by decide +kernel, by decide, by decide⟩
    · exact Or.inl (by decide)
    · exact Or.inl (by decide)
    · exact Or.inl (by decide)
    · exact Or.inl (by decide)), by decide, by decide, by decide +kernel, rfl, by decide, by decide⟩
