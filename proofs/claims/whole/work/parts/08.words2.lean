set_option maxRecDepth 20000 in
theorem fl_RX5_39 : xw_fl RX5 39 0 0 := ⟨_, rfl, by decide, rfl, lw_g_in (by decide +kernel) (by decide +kernel)⟩
set_option maxRecDepth 20000 in
theorem fl_RX5_80 : xw_fl RX5 80 2 1 := ⟨_, rfl, by decide, rfl, lw_g_in (by decide +kernel) (by decide +kernel)⟩
set_option maxRecDepth 20000 in
theorem fl_RX5_102 : xw_fl RX5 102 0 1 := ⟨_, rfl, by decide, rfl, lw_g_in (by decide +kernel) (by decide +kernel)⟩
set_option maxRecDepth 20000 in
theorem fl_RX5_111 : xw_fl RX5 111 0 3 := ⟨_, rfl, by decide, rfl, lw_g_in (by decide +kernel) (by decide +kernel)⟩
set_option maxRecDepth 20000 in
theorem fl_RX5_118 : xw_fl RX5 118 3 1 := ⟨_, rfl, by decide, rfl, lw_g_in (by decide +kernel) (by decide +kernel)⟩
set_option maxRecDepth 20000 in
theorem fl_RX5_155 : xw_fl RX5 155 0 2 := ⟨_, rfl, by decide, rfl, lw_g_in (by decide +kernel) (by decide +kernel)⟩
set_option maxRecDepth 20000 in
theorem fl_RX5_158 : xw_fl RX5 158 2 2 := ⟨_, rfl, by decide, rfl, lw_g_in (by decide +kernel) (by decide +kernel)⟩
set_option maxRecDepth 20000 in
theorem fl_RX5_161 : xw_fl RX5 161 2 3 := ⟨_, rfl, by decide, rfl, lw_g_in (by decide +kernel) (by decide +kernel)⟩
set_option maxRecDepth 20000 in
theorem fl_RX5_164 : xw_fl RX5 164 2 4 := ⟨_, rfl, by decide, rfl, lw_g_in (by decide +kernel) (by decide +kernel)⟩
set_option maxRecDepth 20000 in
theorem fl_RX5_167 : xw_fl RX5 167 2 5 := ⟨_, rfl, by decide, rfl, lw_g_in (by decide +kernel) (by decide +kernel)⟩
set_option maxRecDepth 20000 in
theorem cv_RX5_35 : xw_cv RX5 35 1 yX1_channelAt cX1_channelAt 3 (some (.object "WaterFibers$Channel")) 1 := ⟨by decide +kernel, ⟨_, rfl, rfl⟩, by decide +kernel, by decide +kernel, by decide +kernel⟩
set_option maxRecDepth 20000 in
theorem cv_RX5_49 : xw_cv RX5 49 5 yX5_checkFiber cX5_checkFiber 2 none 1 := ⟨by decide +kernel, ⟨_, rfl, rfl⟩, by decide +kernel, by decide +kernel, by decide +kernel⟩
set_option maxRecDepth 20000 in
theorem cv_RX5_53 : xw_cv RX5 53 5 yX5_isStep cX5_isStep 5 (some .boolean) 4 := ⟨by decide +kernel, ⟨_, rfl, rfl⟩, by decide +kernel, by decide +kernel, by decide +kernel⟩
set_option maxRecDepth 20000 in
theorem cv_RX5_70 : xw_cv RX5 70 2 yX2_stepAt cX2_stepAt 3 (some (.object "WaterFibers$Step")) 1 := ⟨by decide +kernel, ⟨_, rfl, rfl⟩, by decide +kernel, by decide +kernel, by decide +kernel⟩
set_option maxRecDepth 20000 in
theorem cv_RX5_74 : xw_cv RX5 74 4 yX4_describe cX4_describe 4 none 3 := ⟨by decide +kernel, ⟨_, rfl, rfl⟩, by decide +kernel, by decide +kernel, by decide +kernel⟩
set_option maxRecDepth 20000 in
theorem cv_RX5_83 : xw_cv RX5 83 1 yX1_makeReady cX1_makeReady 2 none 1 := ⟨by decide +kernel, ⟨_, rfl, rfl⟩, by decide +kernel, by decide +kernel, by decide +kernel⟩
set_option maxRecDepth 20000 in
theorem cv_RX5_87 : xw_cv RX5 87 5 yX5_checkChannel cX5_checkChannel 2 none 1 := ⟨by decide +kernel, ⟨_, rfl, rfl⟩, by decide +kernel, by decide +kernel, by decide +kernel⟩
set_option maxRecDepth 20000 in
theorem cv_RX5_96 : xw_cv RX5 96 0 yX0_hasRoom cX0_hasRoom 1 (some .boolean) 0 := ⟨by decide +kernel, ⟨_, rfl, rfl⟩, by decide +kernel, by decide +kernel, by decide +kernel⟩
set_option maxRecDepth 20000 in
theorem cv_RX5_106 : xw_cv RX5 106 3 yX3_addLast cX3_addLast 2 none 1 := ⟨by decide +kernel, ⟨_, rfl, rfl⟩, by decide +kernel, by decide +kernel, by decide +kernel⟩
set_option maxRecDepth 20000 in
theorem cv_RX5_114 : xw_cv RX5 114 1 yX1_wakeFirst cX1_wakeFirst 3 none 1 := ⟨by decide +kernel, ⟨_, rfl, rfl⟩, by decide +kernel, by decide +kernel, by decide +kernel⟩
set_option maxRecDepth 20000 in
theorem cv_RX5_121 : xw_cv RX5 121 5 yX5_checkTurns cX5_checkTurns 2 none 1 := ⟨by decide +kernel, ⟨_, rfl, rfl⟩, by decide +kernel, by decide +kernel, by decide +kernel⟩
set_option maxRecDepth 20000 in
theorem cv_RX5_170 : xw_cv RX5 170 3 yX3_find cX3_find 3 (some .int) 1 := ⟨by decide +kernel, ⟨_, rfl, rfl⟩, by decide +kernel, by decide +kernel, by decide +kernel⟩
set_option maxRecDepth 20000 in
theorem cv_RX5_181 : xw_cv RX5 181 5 yX5_time cX5_time 1 (some .int) 0 := ⟨by decide +kernel, ⟨_, rfl, rfl⟩, by decide +kernel, by decide +kernel, by decide +kernel⟩
set_option maxRecDepth 20000 in
theorem cv_RX5_184 : xw_cv RX5 184 5 yX5_channels cX5_channels 1 (some .int) 0 := ⟨by decide +kernel, ⟨_, rfl, rfl⟩, by decide +kernel, by decide +kernel, by decide +kernel⟩
set_option maxRecDepth 20000 in
theorem cv_RX5_187 : xw_cv RX5 187 5 yX5_fibers cX5_fibers 1 (some .int) 0 := ⟨by decide +kernel, ⟨_, rfl, rfl⟩, by decide +kernel, by decide +kernel, by decide +kernel⟩
set_option maxRecDepth 20000 in
theorem cv_RX5_190 : xw_cv RX5 190 5 yX5_done cX5_done 1 (some .int) 0 := ⟨by decide +kernel, ⟨_, rfl, rfl⟩, by decide +kernel, by decide +kernel, by decide +kernel⟩
set_option maxRecDepth 20000 in
theorem cv_RX5_193 : xw_cv RX5 193 5 yX5_idleTurns cX5_idleTurns 1 (some .int) 0 := ⟨by decide +kernel, ⟨_, rfl, rfl⟩, by decide +kernel, by decide +kernel, by decide +kernel⟩
set_option maxRecDepth 20000 in
theorem cv_RX5_196 : xw_cv RX5 196 5 yX5_next cX5_next 1 (some .int) 0 := ⟨by decide +kernel, ⟨_, rfl, rfl⟩, by decide +kernel, by decide +kernel, by decide +kernel⟩
set_option maxRecDepth 20000 in
theorem cv_RX5_199 : xw_cv RX5 199 5 yX5_isStuck cX5_isStuck 1 (some .boolean) 0 := ⟨by decide +kernel, ⟨_, rfl, rfl⟩, by decide +kernel, by decide +kernel, by decide +kernel⟩
set_option maxRecDepth 20000 in
theorem cv_RX5_202 : xw_cv RX5 202 5 yX5_turnsUntilStuck cX5_turnsUntilStuck 2 (some .int) 0 := ⟨by decide +kernel, ⟨_, rfl, rfl⟩, by decide +kernel, by decide +kernel, by decide +kernel⟩
set_option maxRecDepth 20000 in
theorem cv_RX5_205 : xw_cv RX5 205 5 yX5_held cX5_held 2 (some .int) 1 := ⟨by decide +kernel, ⟨_, rfl, rfl⟩, by decide +kernel, by decide +kernel, by decide +kernel⟩
set_option maxRecDepth 20000 in
theorem cv_RX5_208 : xw_cv RX5 208 5 yX5_valueAt cX5_valueAt 4 (some .int) 2 := ⟨by decide +kernel, ⟨_, rfl, rfl⟩, by decide +kernel, by decide +kernel, by decide +kernel⟩
set_option maxRecDepth 20000 in
theorem cv_RX5_212 : xw_cv RX5 212 5 yX5_sendersAt cX5_sendersAt 2 (some .int) 1 := ⟨by decide +kernel, ⟨_, rfl, rfl⟩, by decide +kernel, by decide +kernel, by decide +kernel⟩
set_option maxRecDepth 20000 in
theorem cv_RX5_215 : xw_cv RX5 215 5 yX5_takersAt cX5_takersAt 2 (some .int) 1 := ⟨by decide +kernel, ⟨_, rfl, rfl⟩, by decide +kernel, by decide +kernel, by decide +kernel⟩
set_option maxRecDepth 20000 in
theorem cv_RX5_218 : xw_cv RX5 218 5 yX5_placesWanted cX5_placesWanted 4 (some .int) 1 := ⟨by decide +kernel, ⟨_, rfl, rfl⟩, by decide +kernel, by decide +kernel, by decide +kernel⟩
set_option maxRecDepth 20000 in
theorem cv_RX5_221 : xw_cv RX5 221 5 yX5_stateOf cX5_stateOf 2 (some .int) 1 := ⟨by decide +kernel, ⟨_, rfl, rfl⟩, by decide +kernel, by decide +kernel, by decide +kernel⟩
set_option maxRecDepth 20000 in
theorem cv_RX5_224 : xw_cv RX5 224 5 yX5_placeOf cX5_placeOf 2 (some .int) 1 := ⟨by decide +kernel, ⟨_, rfl, rfl⟩, by decide +kernel, by decide +kernel, by decide +kernel⟩
set_option maxRecDepth 20000 in
theorem cv_RX5_227 : xw_cv RX5 227 5 yX5_sumOf cX5_sumOf 2 (some .int) 1 := ⟨by decide +kernel, ⟨_, rfl, rfl⟩, by decide +kernel, by decide +kernel, by decide +kernel⟩
set_option maxRecDepth 20000 in
theorem cv_RX5_230 : xw_cv RX5 230 5 yX5_stepsDone cX5_stepsDone 2 (some .int) 1 := ⟨by decide +kernel, ⟨_, rfl, rfl⟩, by decide +kernel, by decide +kernel, by decide +kernel⟩
set_option maxRecDepth 20000 in
theorem cv_RX5_233 : xw_cv RX5 233 5 yX5_turnsOf cX5_turnsOf 2 (some .int) 1 := ⟨by decide +kernel, ⟨_, rfl, rfl⟩, by decide +kernel, by decide +kernel, by decide +kernel⟩
set_option maxRecDepth 20000 in
theorem cv_RX5_236 : xw_cv RX5 236 5 yX5_placeInLine cX5_placeInLine 2 (some .int) 1 := ⟨by decide +kernel, ⟨_, rfl, rfl⟩, by decide +kernel, by decide +kernel, by decide +kernel⟩
set_option maxRecDepth 20000 in
theorem cv_RX5_239 : xw_cv RX5 239 5 yX5_turnsUntilDone cX5_turnsUntilDone 4 (some .int) 1 := ⟨by decide +kernel, ⟨_, rfl, rfl⟩, by decide +kernel, by decide +kernel, by decide +kernel⟩
set_option maxRecDepth 20000 in
theorem th_RX5_19_21 : xw_th RX5 19 21 23 "java/lang/IllegalArgumentException" "places is not 1 to 4" := ⟨by decide +kernel, by decide +kernel, by decide +kernel, by decide +kernel, by decide +kernel, by decide +kernel⟩
set_option maxRecDepth 20000 in
theorem th_RX5_19_57 : xw_th RX5 19 57 23 "java/lang/IllegalArgumentException" "there is no such kind, or one or two does not fit it" := ⟨by decide +kernel, by decide +kernel, by decide +kernel, by decide +kernel, by decide +kernel, by decide +kernel⟩
set_option maxRecDepth 20000 in
theorem th_RX5_19_94 : xw_th RX5 19 94 23 "java/lang/IllegalArgumentException" "value is not -999 to 999" := ⟨by decide +kernel, by decide +kernel, by decide +kernel, by decide +kernel, by decide +kernel, by decide +kernel⟩
set_option maxRecDepth 20000 in
theorem th_RX5_19_252 : xw_th RX5 19 252 23 "java/lang/IllegalArgumentException" "turns is not 1 to 60" := ⟨by decide +kernel, by decide +kernel, by decide +kernel, by decide +kernel, by decide +kernel, by decide +kernel⟩
set_option maxRecDepth 20000 in
theorem th_RX5_30_32 : xw_th RX5 30 32 34 "java/lang/IllegalStateException" "there are 4 channels" := ⟨by decide +kernel, by decide +kernel, by decide +kernel, by decide +kernel, by decide +kernel, by decide +kernel⟩
set_option maxRecDepth 20000 in
theorem th_RX5_30_47 : xw_th RX5 30 47 34 "java/lang/IllegalStateException" "there are 8 fibers" := ⟨by decide +kernel, by decide +kernel, by decide +kernel, by decide +kernel, by decide +kernel, by decide +kernel⟩
set_option maxRecDepth 20000 in
theorem th_RX5_30_68 : xw_th RX5 30 68 34 "java/lang/IllegalStateException" "the fiber has 12 steps" := ⟨by decide +kernel, by decide +kernel, by decide +kernel, by decide +kernel, by decide +kernel, by decide +kernel⟩
set_option maxRecDepth 20000 in
theorem th_RX5_30_100 : xw_th RX5 30 100 34 "java/lang/IllegalStateException" "the channel has no room" := ⟨by decide +kernel, by decide +kernel, by decide +kernel, by decide +kernel, by decide +kernel, by decide +kernel⟩
set_option maxRecDepth 20000 in
theorem th_RX5_150_152 : xw_th RX5 150 152 154 "java/lang/IndexOutOfBoundsException" "there is no such drop" := ⟨by decide +kernel, by decide +kernel, by decide +kernel, by decide +kernel, by decide +kernel, by decide +kernel⟩
set_option maxRecDepth 20000 in
theorem th_RX5_150_245 : xw_th RX5 150 245 154 "java/lang/IndexOutOfBoundsException" "there is no such channel" := ⟨by decide +kernel, by decide +kernel, by decide +kernel, by decide +kernel, by decide +kernel, by decide +kernel⟩
set_option maxRecDepth 20000 in
theorem th_RX5_150_250 : xw_th RX5 150 250 154 "java/lang/IndexOutOfBoundsException" "there is no such fiber" := ⟨by decide +kernel, by decide +kernel, by decide +kernel, by decide +kernel, by decide +kernel, by decide +kernel⟩
