set_option maxRecDepth 20000 in
theorem cv_RL_7 : xw_cv RL 7 5 yX5_addChannel cX5_addChannel 3 (some .int) 1 := ⟨by decide +kernel, ⟨_, rfl, rfl⟩, by decide +kernel, by decide +kernel, by decide +kernel⟩
set_option maxRecDepth 20000 in
theorem cv_RL_17 : xw_cv RL 17 5 yX5_addFiber cX5_addFiber 2 (some .int) 0 := ⟨by decide +kernel, ⟨_, rfl, rfl⟩, by decide +kernel, by decide +kernel, by decide +kernel⟩
set_option maxRecDepth 20000 in
theorem cv_RL_21 : xw_cv RL 21 5 yX5_addStep cX5_addStep 7 (some .int) 4 := ⟨by decide +kernel, ⟨_, rfl, rfl⟩, by decide +kernel, by decide +kernel, by decide +kernel⟩
set_option maxRecDepth 20000 in
theorem cv_RL_27 : xw_cv RL 27 5 yX5_pour cX5_pour 4 (some .int) 2 := ⟨by decide +kernel, ⟨_, rfl, rfl⟩, by decide +kernel, by decide +kernel, by decide +kernel⟩
set_option maxRecDepth 20000 in
theorem cv_RL_31 : xw_cv RL 31 5 yX5_run cX5_run 4 (some .int) 1 := ⟨by decide +kernel, ⟨_, rfl, rfl⟩, by decide +kernel, by decide +kernel, by decide +kernel⟩
set_option maxRecDepth 20000 in
theorem cv_RL_34 : xw_cv RL 34 5 yX5_held cX5_held 2 (some .int) 1 := ⟨by decide +kernel, ⟨_, rfl, rfl⟩, by decide +kernel, by decide +kernel, by decide +kernel⟩
set_option maxRecDepth 20000 in
theorem cv_RL_37 : xw_cv RL 37 5 yX5_valueAt cX5_valueAt 4 (some .int) 2 := ⟨by decide +kernel, ⟨_, rfl, rfl⟩, by decide +kernel, by decide +kernel, by decide +kernel⟩
set_option maxRecDepth 20000 in
theorem cv_RL_40 : xw_cv RL 40 5 yX5_sendersAt cX5_sendersAt 2 (some .int) 1 := ⟨by decide +kernel, ⟨_, rfl, rfl⟩, by decide +kernel, by decide +kernel, by decide +kernel⟩
set_option maxRecDepth 20000 in
theorem cv_RL_43 : xw_cv RL 43 5 yX5_takersAt cX5_takersAt 2 (some .int) 1 := ⟨by decide +kernel, ⟨_, rfl, rfl⟩, by decide +kernel, by decide +kernel, by decide +kernel⟩
set_option maxRecDepth 20000 in
theorem cv_RL_46 : xw_cv RL 46 5 yX5_stateOf cX5_stateOf 2 (some .int) 1 := ⟨by decide +kernel, ⟨_, rfl, rfl⟩, by decide +kernel, by decide +kernel, by decide +kernel⟩
set_option maxRecDepth 20000 in
theorem cv_RL_49 : xw_cv RL 49 5 yX5_placeOf cX5_placeOf 2 (some .int) 1 := ⟨by decide +kernel, ⟨_, rfl, rfl⟩, by decide +kernel, by decide +kernel, by decide +kernel⟩
set_option maxRecDepth 20000 in
theorem cv_RL_52 : xw_cv RL 52 5 yX5_sumOf cX5_sumOf 2 (some .int) 1 := ⟨by decide +kernel, ⟨_, rfl, rfl⟩, by decide +kernel, by decide +kernel, by decide +kernel⟩
set_option maxRecDepth 20000 in
theorem cv_RL_55 : xw_cv RL 55 5 yX5_stepsDone cX5_stepsDone 2 (some .int) 1 := ⟨by decide +kernel, ⟨_, rfl, rfl⟩, by decide +kernel, by decide +kernel, by decide +kernel⟩
set_option maxRecDepth 20000 in
theorem cv_RL_58 : xw_cv RL 58 5 yX5_turnsOf cX5_turnsOf 2 (some .int) 1 := ⟨by decide +kernel, ⟨_, rfl, rfl⟩, by decide +kernel, by decide +kernel, by decide +kernel⟩
set_option maxRecDepth 20000 in
theorem cv_RL_61 : xw_cv RL 61 5 yX5_placeInLine cX5_placeInLine 2 (some .int) 1 := ⟨by decide +kernel, ⟨_, rfl, rfl⟩, by decide +kernel, by decide +kernel, by decide +kernel⟩
set_option maxRecDepth 20000 in
theorem cv_RL_64 : xw_cv RL 64 5 yX5_turnsUntilDone cX5_turnsUntilDone 4 (some .int) 1 := ⟨by decide +kernel, ⟨_, rfl, rfl⟩, by decide +kernel, by decide +kernel, by decide +kernel⟩
set_option maxRecDepth 20000 in
theorem cv_RL_67 : xw_cv RL 67 5 yX5_sumIn cX5_sumIn 4 (some .int) 2 := ⟨by decide +kernel, ⟨_, rfl, rfl⟩, by decide +kernel, by decide +kernel, by decide +kernel⟩
set_option maxRecDepth 20000 in
theorem cv_RL_70 : xw_cv RL 70 5 yX5_placesWanted cX5_placesWanted 4 (some .int) 1 := ⟨by decide +kernel, ⟨_, rfl, rfl⟩, by decide +kernel, by decide +kernel, by decide +kernel⟩
