set_option maxRecDepth 20000 in
theorem kd_350 : xw_kd 350 = 5 := by decide +kernel
set_option maxRecDepth 20000 in
theorem cv_RL_25 : xw_cv RL 25 7 yX7_addChannel cX7_addChannel 4 none 1 := ⟨by decide +kernel, ⟨_, rfl, rfl⟩, by decide +kernel, by decide +kernel, by decide +kernel⟩
set_option maxRecDepth 20000 in
theorem cv_RL_29 : xw_cv RL 29 5 yX5_addChannel cX5_addChannel 3 (some .int) 1 := ⟨by decide +kernel, ⟨_, rfl, rfl⟩, by decide +kernel, by decide +kernel, by decide +kernel⟩
set_option maxRecDepth 20000 in
theorem cv_RL_34 : xw_cv RL 34 7 yX7_addFiber cX7_addFiber 3 none 0 := ⟨by decide +kernel, ⟨_, rfl, rfl⟩, by decide +kernel, by decide +kernel, by decide +kernel⟩
set_option maxRecDepth 20000 in
theorem cv_RL_37 : xw_cv RL 37 5 yX5_addFiber cX5_addFiber 2 (some .int) 0 := ⟨by decide +kernel, ⟨_, rfl, rfl⟩, by decide +kernel, by decide +kernel, by decide +kernel⟩
set_option maxRecDepth 20000 in
theorem cv_RL_40 : xw_cv RL 40 7 yX7_canAdd cX7_canAdd 5 (some .boolean) 4 := ⟨by decide +kernel, ⟨_, rfl, rfl⟩, by decide +kernel, by decide +kernel, by decide +kernel⟩
set_option maxRecDepth 20000 in
theorem cv_RL_50 : xw_cv RL 50 7 yX7_addStep cX7_addStep 9 none 4 := ⟨by decide +kernel, ⟨_, rfl, rfl⟩, by decide +kernel, by decide +kernel, by decide +kernel⟩
set_option maxRecDepth 20000 in
theorem cv_RL_54 : xw_cv RL 54 5 yX5_addStep cX5_addStep 7 (some .int) 4 := ⟨by decide +kernel, ⟨_, rfl, rfl⟩, by decide +kernel, by decide +kernel, by decide +kernel⟩
set_option maxRecDepth 20000 in
theorem cv_RL_57 : xw_cv RL 57 7 yX7_isSent cX7_isSent 3 (some .boolean) 2 := ⟨by decide +kernel, ⟨_, rfl, rfl⟩, by decide +kernel, by decide +kernel, by decide +kernel⟩
set_option maxRecDepth 20000 in
theorem cv_RL_61 : xw_cv RL 61 5 yX5_pour cX5_pour 4 (some .int) 2 := ⟨by decide +kernel, ⟨_, rfl, rfl⟩, by decide +kernel, by decide +kernel, by decide +kernel⟩
set_option maxRecDepth 20000 in
theorem cv_RL_67 : xw_cv RL 67 5 yX5_run cX5_run 4 (some .int) 1 := ⟨by decide +kernel, ⟨_, rfl, rfl⟩, by decide +kernel, by decide +kernel, by decide +kernel⟩
set_option maxRecDepth 20000 in
theorem cv_RL_70 : xw_cv RL 70 7 yX7_pass_ cX7_pass_ 4 (some .int) 1 := ⟨by decide +kernel, ⟨_, rfl, rfl⟩, by decide +kernel, by decide +kernel, by decide +kernel⟩
set_option maxRecDepth 20000 in
theorem cs_RL_19 : xw_cs RL 19 yL_below cL_below 2 (some .int) 2 := ⟨by decide +kernel, by decide +kernel, by decide +kernel, by decide +kernel, by decide +kernel⟩
set_option maxRecDepth 20000 in
theorem hx_L_act_73_1 : zw_ha RL [(27, 90, 513, 73), (91, 144, 513, 73), (145, 392, 513, 73), (393, 463, 513, 73), (464, 512, 513, 73), (27, 90, 526, 75), (91, 144, 526, 75), (145, 392, 526, 75), (393, 463, 526, 75), (464, 512, 526, 75)] 73 "java/lang/IllegalArgumentException" 513 := ⟨[], ⟨27, 90, 513, 73⟩, [⟨91, 144, 513, 73⟩, ⟨145, 392, 513, 73⟩, ⟨393, 463, 513, 73⟩, ⟨464, 512, 513, 73⟩, ⟨27, 90, 526, 75⟩, ⟨91, 144, 526, 75⟩, ⟨145, 392, 526, 75⟩, ⟨393, 463, 526, 75⟩, ⟨464, 512, 526, 75⟩], rfl, fun z hz => absurd hz List.not_mem_nil, by decide, by decide, by decide +kernel, rfl, by decide, by decide⟩
set_option maxRecDepth 20000 in
theorem hx_L_act_73_2 : zw_ha RL [(27, 90, 513, 73), (91, 144, 513, 73), (145, 392, 513, 73), (393, 463, 513, 73), (464, 512, 513, 73), (27, 90, 526, 75), (91, 144, 526, 75), (145, 392, 526, 75), (393, 463, 526, 75), (464, 512, 526, 75)] 73 "java/lang/IllegalStateException" 526 := ⟨[⟨27, 90, 513, 73⟩, ⟨91, 144, 513, 73⟩, ⟨145, 392, 513, 73⟩, ⟨393, 463, 513, 73⟩, ⟨464, 512, 513, 73⟩], ⟨27, 90, 526, 75⟩, [⟨91, 144, 526, 75⟩, ⟨145, 392, 526, 75⟩, ⟨393, 463, 526, 75⟩, ⟨464, 512, 526, 75⟩], rfl, (fun z hz => by
    simp only [List.mem_cons, List.not_mem_nil, or_false] at hz
    rcases hz with rfl | rfl | rfl | rfl | rfl
    · exact Or.inr ⟨by decide, "java/lang/IllegalArgumentException", by decide +kernel, by decide, by decide⟩
    · exact Or.inl (by decide)
    · exact Or.inl (by decide)
    · exact Or.inl (by decide)
    · exact Or.inl (by decide)), by decide, by decide, by decide +kernel, rfl, by decide, by decide⟩
set_option maxRecDepth 20000 in
theorem hx_L_act_126_1 : zw_ha RL [(27, 90, 513, 73), (91, 144, 513, 73), (145, 392, 513, 73), (393, 463, 513, 73), (464, 512, 513, 73), (27, 90, 526, 75), (91, 144, 526, 75), (145, 392, 526, 75), (393, 463, 526, 75), (464, 512, 526, 75)] 126 "java/lang/IllegalArgumentException" 513 := ⟨[⟨27, 90, 513, 73⟩], ⟨91, 144, 513, 73⟩, [⟨145, 392, 513, 73⟩, ⟨393, 463, 513, 73⟩, ⟨464, 512, 513, 73⟩, ⟨27, 90, 526, 75⟩, ⟨91, 144, 526, 75⟩, ⟨145, 392, 526, 75⟩, ⟨393, 463, 526, 75⟩, ⟨464, 512, 526, 75⟩], rfl, (fun z hz => by
    simp only [List.mem_cons, List.not_mem_nil, or_false] at hz
    rcases hz with rfl
    · exact Or.inl (by decide)), by decide, by decide, by decide +kernel, rfl, by decide, by decide⟩
set_option maxRecDepth 20000 in
theorem hx_L_act_126_2 : zw_ha RL [(27, 90, 513, 73), (91, 144, 513, 73), (145, 392, 513, 73), (393, 463, 513, 73), (464, 512, 513, 73), (27, 90, 526, 75), (91, 144, 526, 75), (145, 392, 526, 75), (393, 463, 526, 75), (464, 512, 526, 75)] 126 "java/lang/IllegalStateException" 526 := ⟨[⟨27, 90, 513, 73⟩, ⟨91, 144, 513, 73⟩, ⟨145, 392, 513, 73⟩, ⟨393, 463, 513, 73⟩, ⟨464, 512, 513, 73⟩, ⟨27, 90, 526, 75⟩], ⟨91, 144, 526, 75⟩, [⟨145, 392, 526, 75⟩, ⟨393, 463, 526, 75⟩, ⟨464, 512, 526, 75⟩], rfl, (fun z hz => by
    simp only [List.mem_cons, List.not_mem_nil, or_false] at hz
    rcases hz with rfl | rfl | rfl | rfl | rfl | rfl
    · exact Or.inl (by decide)
    · exact Or.inr ⟨by decide, "java/lang/IllegalArgumentException", by decide +kernel, by decide, by decide⟩
    · exact Or.inl (by decide)
    · exact Or.inl (by decide)
    · exact Or.inl (by decide)
    · exact Or.inl (by decide)), by decide, by decide, by decide +kernel, rfl, by decide, by decide⟩
set_option maxRecDepth 20000 in
theorem hx_L_act_369_1 : zw_ha RL [(27, 90, 513, 73), (91, 144, 513, 73), (145, 392, 513, 73), (393, 463, 513, 73), (464, 512, 513, 73), (27, 90, 526, 75), (91, 144, 526, 75), (145, 392, 526, 75), (393, 463, 526, 75), (464, 512, 526, 75)] 369 "java/lang/IllegalArgumentException" 513 := ⟨[⟨27, 90, 513, 73⟩, ⟨91, 144, 513, 73⟩], ⟨145, 392, 513, 73⟩, [⟨393, 463, 513, 73⟩, ⟨464, 512, 513, 73⟩, ⟨27, 90, 526, 75⟩, ⟨91, 144, 526, 75⟩, ⟨145, 392, 526, 75⟩, ⟨393, 463, 526, 75⟩, ⟨464, 512, 526, 75⟩], rfl, (fun z hz => by
    simp only [List.mem_cons, List.not_mem_nil, or_false] at hz
    rcases hz with rfl | rfl
    · exact Or.inl (by decide)
    · exact Or.inl (by decide)), by decide, by decide, by decide +kernel, rfl, by decide, by decide⟩
set_option maxRecDepth 20000 in
theorem hx_L_act_369_2 : zw_ha RL [(27, 90, 513, 73), (91, 144, 513, 73), (145, 392, 513, 73), (393, 463, 513, 73), (464, 512, 513, 73), (27, 90, 526, 75), (91, 144, 526, 75), (145, 392, 526, 75), (393, 463, 526, 75), (464, 512, 526, 75)] 369 "java/lang/IllegalStateException" 526 := ⟨[⟨27, 90, 513, 73⟩, ⟨91, 144, 513, 73⟩, ⟨145, 392, 513, 73⟩, ⟨393, 463, 513, 73⟩, ⟨464, 512, 513, 73⟩, ⟨27, 90, 526, 75⟩, ⟨91, 144, 526, 75⟩], ⟨145, 392, 526, 75⟩, [⟨393, 463, 526, 75⟩, ⟨464, 512, 526, 75⟩], rfl, (fun z hz => by
    simp only [List.mem_cons, List.not_mem_nil, or_false] at hz
    rcases hz with rfl | rfl | rfl | rfl | rfl | rfl | rfl
    · exact Or.inl (by decide)
    · exact Or.inl (by decide)
    · exact Or.inr ⟨by decide, "java/lang/IllegalArgumentException", by decide +kernel, by decide, by decide⟩
    · exact Or.inl (by decide)
    · exact Or.inl (by decide)
    · exact Or.inl (by decide)
    · exact Or.inl (by decide)), by decide, by decide, by decide +kernel, rfl, by decide, by decide⟩
set_option maxRecDepth 20000 in
theorem hx_L_act_439_1 : zw_ha RL [(27, 90, 513, 73), (91, 144, 513, 73), (145, 392, 513, 73), (393, 463, 513, 73), (464, 512, 513, 73), (27, 90, 526, 75), (91, 144, 526, 75), (145, 392, 526, 75), (393, 463, 526, 75), (464, 512, 526, 75)] 439 "java/lang/IllegalArgumentException" 513 := ⟨[⟨27, 90, 513, 73⟩, ⟨91, 144, 513, 73⟩, ⟨145, 392, 513, 73⟩], ⟨393, 463, 513, 73⟩, [⟨464, 512, 513, 73⟩, ⟨27, 90, 526, 75⟩, ⟨91, 144, 526, 75⟩, ⟨145, 392, 526, 75⟩, ⟨393, 463, 526, 75⟩, ⟨464, 512, 526, 75⟩], rfl, (fun z hz => by
    simp only [List.mem_cons, List.not_mem_nil, or_false] at hz
    rcases hz with rfl | rfl | rfl
    · exact Or.inl (by decide)
    · exact Or.inl (by decide)
    · exact Or.inl (by decide)), by decide, by decide, by decide +kernel, rfl, by decide, by decide⟩
set_option maxRecDepth 20000 in
theorem hx_L_act_439_2 : zw_ha RL [(27, 90, 513, 73), (91, 144, 513, 73), (145, 392, 513, 73), (393, 463, 513, 73), (464, 512, 513, 73), (27, 90, 526, 75), (91, 144, 526, 75), (145, 392, 526, 75), (393, 463, 526, 75), (464, 512, 526, 75)] 439 "java/lang/IllegalStateException" 526 := ⟨[⟨27, 90, 513, 73⟩, ⟨91, 144, 513, 73⟩, ⟨145, 392, 513, 73⟩, ⟨393, 463, 513, 73⟩, ⟨464, 512, 513, 73⟩, ⟨27, 90, 526, 75⟩, ⟨91, 144, 526, 75⟩, ⟨145, 392, 526, 75⟩], ⟨393, 463, 526, 75⟩, [⟨464, 512, 526, 75⟩], rfl, (fun z hz => by
    simp only [List.mem_cons, List.not_mem_nil, or_false] at hz
    rcases hz with rfl | rfl | rfl | rfl | rfl | rfl | rfl | rfl
    · exact Or.inl (by decide)
    · exact Or.inl (by decide)
    · exact Or.inl (by decide)
    · exact Or.inr ⟨by decide, "java/lang/IllegalArgumentException", by decide +kernel, by decide, by decide⟩
    · exact Or.inl (by decide)
    · exact Or.inl (by decide)
    · exact Or.inl (by decide)
    · exact Or.inl (by decide)), by decide, by decide, by decide +kernel, rfl, by decide, by decide⟩
set_option maxRecDepth 20000 in
theorem hx_L_act_495_1 : zw_ha RL [(27, 90, 513, 73), (91, 144, 513, 73), (145, 392, 513, 73), (393, 463, 513, 73), (464, 512, 513, 73), (27, 90, 526, 75), (91, 144, 526, 75), (145, 392, 526, 75), (393, 463, 526, 75), (464, 512, 526, 75)] 495 "java/lang/IllegalArgumentException" 513 := ⟨[⟨27, 90, 513, 73⟩, ⟨91, 144, 513, 73⟩, ⟨145, 392, 513, 73⟩, ⟨393, 463, 513, 73⟩], ⟨464, 512, 513, 73⟩, [⟨27, 90, 526, 75⟩, ⟨91, 144, 526, 75⟩, ⟨145, 392, 526, 75⟩, ⟨393, 463, 526, 75⟩, ⟨464, 512, 526, 75⟩], rfl, (fun z hz => by
    simp only [List.mem_cons, List.not_mem_nil, or_false] at hz
    rcases hz with rfl | rfl | rfl | rfl
    · exact Or.inl (by decide)
    · exact Or.inl (by decide)
    · exact Or.inl (by decide)
    · exact Or.inl (by decide)), by decide, by decide, by decide +kernel, rfl, by decide, by decide⟩
set_option maxRecDepth 20000 in
theorem hx_L_act_495_2 : zw_ha RL [(27, 90, 513, 73), (91, 144, 513, 73), (145, 392, 513, 73), (393, 463, 513, 73), (464, 512, 513, 73), (27, 90, 526, 75), (91, 144, 526, 75), (145, 392, 526, 75), (393, 463, 526, 75), (464, 512, 526, 75)] 495 "java/lang/IllegalStateException" 526 := ⟨[⟨27, 90, 513, 73⟩, ⟨91, 144, 513, 73⟩, ⟨145, 392, 513, 73⟩, ⟨393, 463, 513, 73⟩, ⟨464, 512, 513, 73⟩, ⟨27, 90, 526, 75⟩, ⟨91, 144, 526, 75⟩, ⟨145, 392, 526, 75⟩, ⟨393, 463, 526, 75⟩], ⟨464, 512, 526, 75⟩, [], rfl, (fun z hz => by
    simp only [List.mem_cons, List.not_mem_nil, or_false] at hz
    rcases hz with rfl | rfl | rfl | rfl | rfl | rfl | rfl | rfl | rfl
    · exact Or.inl (by decide)
    · exact Or.inl (by decide)
    · exact Or.inl (by decide)
    · exact Or.inl (by decide)
    · exact Or.inr ⟨by decide, "java/lang/IllegalArgumentException", by decide +kernel, by decide, by decide⟩
    · exact Or.inl (by decide)
    · exact Or.inl (by decide)
    · exact Or.inl (by decide)
    · exact Or.inl (by decide)), by decide, by decide, by decide +kernel, rfl, by decide, by decide⟩
