set_option maxRecDepth 20000 in
theorem cw_77 : xw_cw RL 77 yL_addChannel cL_addChannel 4 [(0, 9, 12, 13), (0, 9, 15, 15)] 3 := ⟨by decide +kernel, by decide +kernel, by decide +kernel, by decide +kernel⟩
set_option maxRecDepth 20000 in
theorem cw_86 : xw_cw RL 86 yL_addFiber cL_addFiber 3 [(0, 8, 11, 15)] 2 := ⟨by decide +kernel, by decide +kernel, by decide +kernel, by decide +kernel⟩
set_option maxRecDepth 20000 in
theorem cw_90 : xw_cw RL 90 yL_addStep cL_addStep 7 [(0, 14, 17, 25), (0, 14, 21, 13), (0, 14, 25, 15)] 6 := ⟨by decide +kernel, by decide +kernel, by decide +kernel, by decide +kernel⟩
set_option maxRecDepth 20000 in
theorem cw_94 : xw_cw RL 94 yL_pour cL_pour 5 [(0, 10, 13, 25), (0, 10, 17, 13), (0, 10, 21, 15)] 4 := ⟨by decide +kernel, by decide +kernel, by decide +kernel, by decide +kernel⟩
set_option maxRecDepth 20000 in
theorem cw_98 : xw_cw RL 98 yL_run cL_run 4 [(0, 9, 12, 13)] 3 := ⟨by decide +kernel, by decide +kernel, by decide +kernel, by decide +kernel⟩
set_option maxRecDepth 20000 in
theorem cw_130 : xw_cw RL 130 yL_held cL_held 4 [(0, 9, 12, 25)] 3 := ⟨by decide +kernel, by decide +kernel, by decide +kernel, by decide +kernel⟩
set_option maxRecDepth 20000 in
theorem cw_133 : xw_cw RL 133 yL_valueAt cL_valueAt 5 [(0, 10, 13, 25)] 4 := ⟨by decide +kernel, by decide +kernel, by decide +kernel, by decide +kernel⟩
set_option maxRecDepth 20000 in
theorem cw_136 : xw_cw RL 136 yL_sendersAt cL_sendersAt 4 [(0, 9, 12, 25)] 3 := ⟨by decide +kernel, by decide +kernel, by decide +kernel, by decide +kernel⟩
set_option maxRecDepth 20000 in
theorem cw_139 : xw_cw RL 139 yL_takersAt cL_takersAt 4 [(0, 9, 12, 25)] 3 := ⟨by decide +kernel, by decide +kernel, by decide +kernel, by decide +kernel⟩
set_option maxRecDepth 20000 in
theorem cw_142 : xw_cw RL 142 yL_stateOf cL_stateOf 4 [(0, 9, 12, 25)] 3 := ⟨by decide +kernel, by decide +kernel, by decide +kernel, by decide +kernel⟩
set_option maxRecDepth 20000 in
theorem cw_145 : xw_cw RL 145 yL_placeOf cL_placeOf 4 [(0, 9, 12, 25)] 3 := ⟨by decide +kernel, by decide +kernel, by decide +kernel, by decide +kernel⟩
set_option maxRecDepth 20000 in
theorem cw_148 : xw_cw RL 148 yL_sumOf cL_sumOf 4 [(0, 9, 12, 25)] 3 := ⟨by decide +kernel, by decide +kernel, by decide +kernel, by decide +kernel⟩
set_option maxRecDepth 20000 in
theorem cw_151 : xw_cw RL 151 yL_stepsDone cL_stepsDone 4 [(0, 9, 12, 25)] 3 := ⟨by decide +kernel, by decide +kernel, by decide +kernel, by decide +kernel⟩
set_option maxRecDepth 20000 in
theorem cw_154 : xw_cw RL 154 yL_turnsOf cL_turnsOf 4 [(0, 9, 12, 25)] 3 := ⟨by decide +kernel, by decide +kernel, by decide +kernel, by decide +kernel⟩
set_option maxRecDepth 20000 in
theorem cw_157 : xw_cw RL 157 yL_placeInLine cL_placeInLine 4 [(0, 9, 12, 25)] 3 := ⟨by decide +kernel, by decide +kernel, by decide +kernel, by decide +kernel⟩
set_option maxRecDepth 20000 in
theorem cw_160 : xw_cw RL 160 yL_turnsUntilDone cL_turnsUntilDone 4 [(0, 9, 12, 25)] 3 := ⟨by decide +kernel, by decide +kernel, by decide +kernel, by decide +kernel⟩
set_option maxRecDepth 20000 in
theorem cw_167 : xw_cw RL 167 yL_sumIn cL_sumIn 5 [(0, 10, 13, 25), (0, 10, 17, 13)] 4 := ⟨by decide +kernel, by decide +kernel, by decide +kernel, by decide +kernel⟩
set_option maxRecDepth 20000 in
theorem cw_170 : xw_cw RL 170 yL_placesWanted cL_placesWanted 4 [(0, 9, 12, 25)] 3 := ⟨by decide +kernel, by decide +kernel, by decide +kernel, by decide +kernel⟩
theorem kd_350 : xw_kd 350 = 5 := by decide +kernel
theorem kd_358 : xw_kd 358 = 15 := by decide +kernel
theorem xr_callRl9 {p : Program} {l : Launch} {e : Env} {R : Room} {s : State} {m : MethodId} {args : Array Value} {below : List Frame} {meth : Method} {c : Code} {G : xw_G} {nL cells slots : Nat} {Q : State → Prop} {cc : ByteArray} {own : String} {pc : Nat} {h : xw_M} {lv : List (Option Value)} {st : List Value} (C : xj_C p s m args meth c G own cc nL) {κ k n na idx fr lo : Nat} {y : MethodName} {b : ByteArray} {ret : Option FieldType} {stk : List Value} (As : List Value) {o : Option (xw_M × Int64 × Nat)} {β : Type} {F : xw_M × Int64 × Nat → Option β} {q : β} (hc : xw_cv own idx κ y b n ret na) (hk : xw_kd k = κ) (hM : ∀ r, o = some r → r.2.2 = 0 → xc_M l G y b n ret fr lo (.ref (xg_ad G k) :: As) h r.1 (some (.long r.2.1))) (hn : As.length = na) (hR9 : fr + 1 ≤ R.frames ∧ 8 + (n + 11) + lo ≤ R.locals) (hst : (st.map fun v => v.category).sum ≤ 8) (hcs : cells ≤ R.cells ∧ slots ≤ R.slots) (hs : stk = As.reverse ++ .ref (xg_ad G k) :: st) (d : decode cc pc = .ok (.invokevirtual idx, 3)) (hR : (o.bind fun r => if r.2.2 = 0 then F r else none) = some q) (K : ∀ r, o = some r → F r = some q → xj_X p l e R s m args below meth c G nL cells slots Q r.1 lv (pc + 3) (.long r.2.1 :: st)) : xj_X p l e R s m args below meth c G nL cells slots Q h lv pc stk := by
  obtain ⟨r, h1, h2⟩ := xo_b hR
  have hz : r.2.2 = 0 := Classical.byContradiction fun z => by rw [if_neg z] at h2; cases h2
  rw [hs]
  exact xr_goV C hc hk (hM r h1 hz) hn hR9 hst hcs d (K r h1 (xo_t h2 hz))
