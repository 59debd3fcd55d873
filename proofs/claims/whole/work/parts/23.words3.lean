set_option maxRecDepth 20000 in
theorem cv_RL_7 : xw_cv RL 7 5 yX5_addChannel cX5_addChannel 3 (some .int) 1 := ⟨by decide +kernel, ⟨_, rfl, rfl⟩, by decide +kernel, by decide +kernel, by decide +kernel⟩
set_option maxRecDepth 20000 in
theorem cv_RL_17 : xw_cv RL 17 5 yX5_addFiber cX5_addFiber 2 (some .int) 0 := ⟨by decide +kernel, ⟨_, rfl, rfl⟩, by decide +kernel, by decide +kernel, by decide +kernel⟩
set_option maxRecDepth 20000 in
theorem cv_RL_21 : xw_cv RL 21 5 yX5_addStep cX5_addStep 7 (some .int) 4 := ⟨by decide +kernel, ⟨_, rfl, rfl⟩, by decide +kernel, by decide +kernel, by decide +kernel⟩
set_option maxRecDepth 20000 in
theorem cv_RL_27 : xw_cv RL 27 5 yX5_pour cX5_pour 4 (some .int) 2 := ⟨by decide +kernel, ⟨_, rfl, rfl⟩, by decide +kernel, by decide +kernel, by decide +kernel⟩
set_option maxRecDepth 20000 in
theorem cv_RL_31 : xw_cv RL 31 5 yX5_run cX5_run 4 (some .int) 1 := ⟨by decide +kernel, ⟨_, rfl, rfl⟩, by decide +kernel, by decide +kernel, by decide +kernel⟩
set_option maxRecDepth 20000 in
theorem cv_RL_34 : xw_cv RL 34 5 yX5_held cX5_held 2 (some .int) 1 := ⟨by decide +kernel, ⟨_, rfl, rfl⟩, by decide +kernel, by decide +kernel, by decide +kernel⟩
set_option maxRecDepth 20000 in
theorem cv_RL_37 : xw_cv RL 37 5 yX5_valueAt cX5_valueAt 4 (some .int) 2 := ⟨by decide +kernel, ⟨_, rfl, rfl⟩, by decide +kernel, by decide +kernel, by decide +kernel⟩
set_option maxRecDepth 20000 in
theorem cv_RL_40 : xw_cv RL 40 5 yX5_sendersAt cX5_sendersAt 2 (some .int) 1 := ⟨by decide +kernel, ⟨_, rfl, rfl⟩, by decide +kernel, by decide +kernel, by decide +kernel⟩
set_option maxRecDepth 20000 in
theorem cv_RL_43 : xw_cv RL 43 5 yX5_takersAt cX5_takersAt 2 (some .int) 1 := ⟨by decide +kernel, ⟨_, rfl, rfl⟩, by decide +kernel, by decide +kernel, by decide +kernel⟩
set_option maxRecDepth 20000 in
theorem cv_RL_46 : xw_cv RL 46 5 yX5_stateOf cX5_stateOf 2 (some .int) 1 := ⟨by decide +kernel, ⟨_, rfl, rfl⟩, by decide +kernel, by decide +kernel, by decide +kernel⟩
set_option maxRecDepth 20000 in
theorem cv_RL_49 : xw_cv RL 49 5 yX5_placeOf cX5_placeOf 2 (some .int) 1 := ⟨by decide +kernel, ⟨_, rfl, rfl⟩, by decide +kernel, by decide +kernel, by decide +kernel⟩
set_option maxRecDepth 20000 in
theorem cv_RL_52 : xw_cv RL 52 5 yX5_sumOf cX5_sumOf 2 (some .int) 1 := ⟨by decide +kernel, ⟨_, rfl, rfl⟩, by decide +kernel, by decide +kernel, by decide +kernel⟩
set_option maxRecDepth 20000 in
theorem cv_RL_55 : xw_cv RL 55 5 yX5_stepsDone cX5_stepsDone 2 (some .int) 1 := ⟨by decide +kernel, ⟨_, rfl, rfl⟩, by decide +kernel, by decide +kernel, by decide +kernel⟩
set_option maxRecDepth 20000 in
theorem cv_RL_58 : xw_cv RL 58 5 yX5_turnsOf cX5_turnsOf 2 (some .int) 1 := ⟨by decide +kernel, ⟨_, rfl, rfl⟩, by decide +kernel, by decide +kernel, by decide +kernel⟩
set_option maxRecDepth 20000 in
theorem cv_RL_61 : xw_cv RL 61 5 yX5_placeInLine cX5_placeInLine 2 (some .int) 1 := ⟨by decide +kernel, ⟨_, rfl, rfl⟩, by decide +kernel, by decide +kernel, by decide +kernel⟩
set_option maxRecDepth 20000 in
theorem cv_RL_64 : xw_cv RL 64 5 yX5_turnsUntilDone cX5_turnsUntilDone 4 (some .int) 1 := ⟨by decide +kernel, ⟨_, rfl, rfl⟩, by decide +kernel, by decide +kernel, by decide +kernel⟩
set_option maxRecDepth 20000 in
theorem cv_RL_67 : xw_cv RL 67 5 yX5_sumIn cX5_sumIn 4 (some .int) 2 := ⟨by decide +kernel, ⟨_, rfl, rfl⟩, by decide +kernel, by decide +kernel, by decide +kernel⟩
set_option maxRecDepth 20000 in
theorem cv_RL_70 : xw_cv RL 70 5 yX5_placesWanted cX5_placesWanted 4 (some .int) 1 := ⟨by decide +kernel, ⟨_, rfl, rfl⟩, by decide +kernel, by decide +kernel, by decide +kernel⟩
set_option maxRecDepth 20000 in
theorem cv_RL_82 : xw_cv RL 82 6 yX6_addChannel cX6_addChannel 2 (some .int) 1 := ⟨by decide +kernel, ⟨_, rfl, rfl⟩, by decide +kernel, by decide +kernel, by decide +kernel⟩
set_option maxRecDepth 20000 in
theorem cv_RL_83 : xw_cv RL 83 6 yX6_thrown cX6_thrown 1 (some .int) 0 := ⟨by decide +kernel, ⟨_, rfl, rfl⟩, by decide +kernel, by decide +kernel, by decide +kernel⟩
set_option maxRecDepth 20000 in
theorem cv_RL_89 : xw_cv RL 89 6 yX6_addFiber cX6_addFiber 1 (some .int) 0 := ⟨by decide +kernel, ⟨_, rfl, rfl⟩, by decide +kernel, by decide +kernel, by decide +kernel⟩
set_option maxRecDepth 20000 in
theorem cv_RL_93 : xw_cv RL 93 6 yX6_addStep cX6_addStep 6 (some .int) 4 := ⟨by decide +kernel, ⟨_, rfl, rfl⟩, by decide +kernel, by decide +kernel, by decide +kernel⟩
set_option maxRecDepth 20000 in
theorem cv_RL_97 : xw_cv RL 97 6 yX6_pour cX6_pour 3 (some .int) 2 := ⟨by decide +kernel, ⟨_, rfl, rfl⟩, by decide +kernel, by decide +kernel, by decide +kernel⟩
set_option maxRecDepth 20000 in
theorem cv_RL_100 : xw_cv RL 100 6 yX6_run cX6_run 4 (some .int) 1 := ⟨by decide +kernel, ⟨_, rfl, rfl⟩, by decide +kernel, by decide +kernel, by decide +kernel⟩
set_option maxRecDepth 20000 in
theorem cv_RL_101 : xw_cv RL 101 5 yX5_time cX5_time 1 (some .int) 0 := ⟨by decide +kernel, ⟨_, rfl, rfl⟩, by decide +kernel, by decide +kernel, by decide +kernel⟩
set_option maxRecDepth 20000 in
theorem cv_RL_104 : xw_cv RL 104 6 yX6_time cX6_time 1 (some .int) 0 := ⟨by decide +kernel, ⟨_, rfl, rfl⟩, by decide +kernel, by decide +kernel, by decide +kernel⟩
set_option maxRecDepth 20000 in
theorem cv_RL_105 : xw_cv RL 105 5 yX5_channels cX5_channels 1 (some .int) 0 := ⟨by decide +kernel, ⟨_, rfl, rfl⟩, by decide +kernel, by decide +kernel, by decide +kernel⟩
set_option maxRecDepth 20000 in
theorem cv_RL_108 : xw_cv RL 108 6 yX6_channels cX6_channels 1 (some .int) 0 := ⟨by decide +kernel, ⟨_, rfl, rfl⟩, by decide +kernel, by decide +kernel, by decide +kernel⟩
set_option maxRecDepth 20000 in
theorem cv_RL_109 : xw_cv RL 109 5 yX5_fibers cX5_fibers 1 (some .int) 0 := ⟨by decide +kernel, ⟨_, rfl, rfl⟩, by decide +kernel, by decide +kernel, by decide +kernel⟩
set_option maxRecDepth 20000 in
theorem cv_RL_112 : xw_cv RL 112 6 yX6_fibers cX6_fibers 1 (some .int) 0 := ⟨by decide +kernel, ⟨_, rfl, rfl⟩, by decide +kernel, by decide +kernel, by decide +kernel⟩
set_option maxRecDepth 20000 in
theorem cv_RL_113 : xw_cv RL 113 5 yX5_done cX5_done 1 (some .int) 0 := ⟨by decide +kernel, ⟨_, rfl, rfl⟩, by decide +kernel, by decide +kernel, by decide +kernel⟩
set_option maxRecDepth 20000 in
theorem cv_RL_116 : xw_cv RL 116 6 yX6_done_ cX6_done_ 1 (some .int) 0 := ⟨by decide +kernel, ⟨_, rfl, rfl⟩, by decide +kernel, by decide +kernel, by decide +kernel⟩
set_option maxRecDepth 20000 in
theorem cv_RL_117 : xw_cv RL 117 5 yX5_idleTurns cX5_idleTurns 1 (some .int) 0 := ⟨by decide +kernel, ⟨_, rfl, rfl⟩, by decide +kernel, by decide +kernel, by decide +kernel⟩
set_option maxRecDepth 20000 in
theorem cv_RL_120 : xw_cv RL 120 6 yX6_idleTurns cX6_idleTurns 1 (some .int) 0 := ⟨by decide +kernel, ⟨_, rfl, rfl⟩, by decide +kernel, by decide +kernel, by decide +kernel⟩
set_option maxRecDepth 20000 in
theorem cv_RL_121 : xw_cv RL 121 5 yX5_next cX5_next 1 (some .int) 0 := ⟨by decide +kernel, ⟨_, rfl, rfl⟩, by decide +kernel, by decide +kernel, by decide +kernel⟩
set_option maxRecDepth 20000 in
theorem cv_RL_124 : xw_cv RL 124 6 yX6_next cX6_next 1 (some .int) 0 := ⟨by decide +kernel, ⟨_, rfl, rfl⟩, by decide +kernel, by decide +kernel, by decide +kernel⟩
set_option maxRecDepth 20000 in
theorem cv_RL_125 : xw_cv RL 125 5 yX5_isStuck cX5_isStuck 1 (some .boolean) 0 := ⟨by decide +kernel, ⟨_, rfl, rfl⟩, by decide +kernel, by decide +kernel, by decide +kernel⟩
set_option maxRecDepth 20000 in
theorem cv_RL_129 : xw_cv RL 129 6 yX6_isStuck cX6_isStuck 1 (some .boolean) 0 := ⟨by decide +kernel, ⟨_, rfl, rfl⟩, by decide +kernel, by decide +kernel, by decide +kernel⟩
set_option maxRecDepth 20000 in
theorem cv_RL_132 : xw_cv RL 132 6 yX6_held cX6_held 2 (some .int) 1 := ⟨by decide +kernel, ⟨_, rfl, rfl⟩, by decide +kernel, by decide +kernel, by decide +kernel⟩
set_option maxRecDepth 20000 in
theorem cv_RL_135 : xw_cv RL 135 6 yX6_valueAt cX6_valueAt 3 (some .int) 2 := ⟨by decide +kernel, ⟨_, rfl, rfl⟩, by decide +kernel, by decide +kernel, by decide +kernel⟩
set_option maxRecDepth 20000 in
theorem cv_RL_138 : xw_cv RL 138 6 yX6_sendersAt cX6_sendersAt 2 (some .int) 1 := ⟨by decide +kernel, ⟨_, rfl, rfl⟩, by decide +kernel, by decide +kernel, by decide +kernel⟩
set_option maxRecDepth 20000 in
theorem cv_RL_141 : xw_cv RL 141 6 yX6_takersAt cX6_takersAt 2 (some .int) 1 := ⟨by decide +kernel, ⟨_, rfl, rfl⟩, by decide +kernel, by decide +kernel, by decide +kernel⟩
set_option maxRecDepth 20000 in
theorem cv_RL_144 : xw_cv RL 144 6 yX6_stateOf cX6_stateOf 2 (some .int) 1 := ⟨by decide +kernel, ⟨_, rfl, rfl⟩, by decide +kernel, by decide +kernel, by decide +kernel⟩
set_option maxRecDepth 20000 in
theorem cv_RL_147 : xw_cv RL 147 6 yX6_placeOf cX6_placeOf 2 (some .int) 1 := ⟨by decide +kernel, ⟨_, rfl, rfl⟩, by decide +kernel, by decide +kernel, by decide +kernel⟩
set_option maxRecDepth 20000 in
theorem cv_RL_150 : xw_cv RL 150 6 yX6_sumOf cX6_sumOf 2 (some .int) 1 := ⟨by decide +kernel, ⟨_, rfl, rfl⟩, by decide +kernel, by decide +kernel, by decide +kernel⟩
set_option maxRecDepth 20000 in
theorem cv_RL_153 : xw_cv RL 153 6 yX6_stepsDone cX6_stepsDone 2 (some .int) 1 := ⟨by decide +kernel, ⟨_, rfl, rfl⟩, by decide +kernel, by decide +kernel, by decide +kernel⟩
set_option maxRecDepth 20000 in
theorem cv_RL_156 : xw_cv RL 156 6 yX6_turnsOf cX6_turnsOf 2 (some .int) 1 := ⟨by decide +kernel, ⟨_, rfl, rfl⟩, by decide +kernel, by decide +kernel, by decide +kernel⟩
set_option maxRecDepth 20000 in
theorem cv_RL_159 : xw_cv RL 159 6 yX6_placeInLine cX6_placeInLine 2 (some .int) 1 := ⟨by decide +kernel, ⟨_, rfl, rfl⟩, by decide +kernel, by decide +kernel, by decide +kernel⟩
set_option maxRecDepth 20000 in
theorem cv_RL_162 : xw_cv RL 162 6 yX6_turnsUntilDone cX6_turnsUntilDone 2 (some .int) 1 := ⟨by decide +kernel, ⟨_, rfl, rfl⟩, by decide +kernel, by decide +kernel, by decide +kernel⟩
set_option maxRecDepth 20000 in
theorem cv_RL_163 : xw_cv RL 163 5 yX5_turnsUntilStuck cX5_turnsUntilStuck 2 (some .int) 0 := ⟨by decide +kernel, ⟨_, rfl, rfl⟩, by decide +kernel, by decide +kernel, by decide +kernel⟩
set_option maxRecDepth 20000 in
theorem cv_RL_166 : xw_cv RL 166 6 yX6_turnsUntilStuck cX6_turnsUntilStuck 1 (some .int) 0 := ⟨by decide +kernel, ⟨_, rfl, rfl⟩, by decide +kernel, by decide +kernel, by decide +kernel⟩
set_option maxRecDepth 20000 in
theorem cv_RL_169 : xw_cv RL 169 6 yX6_sumIn cX6_sumIn 4 (some .int) 2 := ⟨by decide +kernel, ⟨_, rfl, rfl⟩, by decide +kernel, by decide +kernel, by decide +kernel⟩
set_option maxRecDepth 20000 in
theorem cv_RL_172 : xw_cv RL 172 6 yX6_placesWanted cX6_placesWanted 2 (some .int) 1 := ⟨by decide +kernel, ⟨_, rfl, rfl⟩, by decide +kernel, by decide +kernel, by decide +kernel⟩
set_option maxRecDepth 20000 in
theorem cv_RL_178 : xw_cv RL 178 5 yX5_digest cX5_digest 7 (some .long) 0 := ⟨by decide +kernel, ⟨_, rfl, rfl⟩, by decide +kernel, by decide +kernel, by decide +kernel⟩
set_option maxRecDepth 20000 in
theorem cv_RL_182 : xw_cv RL 182 6 yX6_digest cX6_digest 10 (some .long) 0 := ⟨by decide +kernel, ⟨_, rfl, rfl⟩, by decide +kernel, by decide +kernel, by decide +kernel⟩
