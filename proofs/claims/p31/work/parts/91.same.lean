/-! in the end all is as by hand -/
section LS
variable {y y' : yz_Y} {A A' P : xs_A} {Wt : List Int32} {r : Nat} {h h' : xw_M}
theorem ls_156 (G : ys_G A h y) {i : Nat} (hi : i < A.nF) {K : xw_M → yz_Y → Int32 → Int32 → Option (xw_M × yz_Y × Int32)} {a2 : Int32} : mX7_isSame_b156 K a2 (nI i) i (xs_ff (nI i) (A.ls 0) 0) h y = K h y (a2 + A.a 5 i) (nI (i + 1)) := by
  obtain ⟨j, I, Wt, R, V⟩ := id G
  have w := I.1
  obtain ⟨f1, f2, f3, f4, f5, f6⟩ := R.gF hi
  unfold mX7_isSame_b156
  rw [if_pos (R.isF w.1 hi), xs_c_stateOf j hi, Option.bind_some]
  dsimp only
  rw [if_pos rfl, if_pos (R.isF w.1 hi), f1, if_pos rfl, xs_c_placeOf j hi, Option.bind_some]
  dsimp only
  rw [if_pos rfl, if_pos (R.isF w.1 hi), f2, if_pos rfl, xs_c_sumOf j hi, Option.bind_some]
  dsimp only
  rw [if_pos rfl, if_pos (R.isF w.1 hi), f3, if_pos rfl, xs_c_stepsDone j hi, Option.bind_some]
  dsimp only
  rw [if_pos rfl, if_pos (R.isF w.1 hi), f4, if_pos rfl, xs_c_turnsOf j hi, Option.bind_some]
  dsimp only
  rw [if_pos rfl, if_pos (R.isF w.1 hi), f5, if_pos rfl, xs_c_placeInLine j hi, Option.bind_some]
  dsimp only
  rw [if_pos rfl, if_pos rfl, nI_1]
theorem ls_134 (G : ys_G A h y) {i : Nat} (hi : i < A.nF) {K : xw_M → yz_Y → Int32 → Int32 → Option (xw_M × yz_Y × Int32)} {a2 : Int32} : ∀ (q n : Nat), q ≤ (A.ls 0).length → q < n → (∀ k, q ≤ k → k < (A.ls 0).length → (A.ls 0).getD k 0 ≠ nI i) → mX7_isSame_b134 K a2 (nI i) i n h y (nI q - 1) = K h y (a2 + A.a 5 i) (nI (i + 1)) := by
  obtain ⟨j, I, Wt, R, V⟩ := id G
  have w := I.1
  have h8 := w.1.2.1
  have hl8 := w.line8
  have p := xd_ff (x := nI i) (A.ls 0) 0
  have fin := ls_156 G hi (K := K) (a2 := a2)
  intro q
  induction q with
  | zero =>
    intro n _ hn hno
    cases n with
    | zero => omega
    | succ n =>
      rw [mX7_isSame_b134, if_pos (by decide)]
      rcases p with ⟨k, k1, k2, k3⟩ | ⟨k1, k2⟩
      · exact absurd k3 (hno k (Nat.zero_le _) k1)
      · rw [k2] at fin
        exact fin
  | succ q ih =>
    intro n hq hn hno
    cases n with
    | zero => omega
    | succ n =>
      have e1 : nI (q + 1) - 1 = nI q := nI_pred q
      have ev : y.1 4 (nI q).toNatClampNeg = (A.ls 0).getD q 0 := by rw [nI_clamp (by omega)]; exact R.2.2.2.2.1.1.2 q (by omega)
      rw [e1, mX7_isSame_b134, if_neg (nI_pos (by omega)), if_pos (show (yz_is y 4 2 && xo_ix (nI q) (y.2 4)) = true by rw [ys_is4.1, R.len4, xs_ix (by omega) (by omega)]; rfl), ev]
      by_cases z : (A.ls 0).getD q 0 = nI i
      · rw [if_pos z]
        rcases p with ⟨k, k1, k2, k3⟩ | ⟨k1, k2⟩
        · have e : k = q := xd_nd (w.2.2.2.2.2 0 (Or.inl rfl)).1.1 k1 (by omega) (k3.trans z.symm)
          rw [k2, Nat.zero_add, e] at fin
          exact fin
        · exact absurd (xd_mem (by omega) z) k1
      · rw [if_neg z, ← Int32.sub_eq_add_neg]
        exact ih n (by omega) (by omega) (fun k k1 k2 => by
          by_cases e : k = q
          · rw [e]; exact z
          · exact hno k (by omega) k2)
theorem ls_108 (G : ys_G A h y) : ∀ (m i fu : Nat), i + m = A.nF → m < fu → mX7_isSame_b108 fu h y (xs_sm A i 0 0) (nI i) = some (h, y, xs_sm A A.nF 0 0) := by
  obtain ⟨j, I, Wt, R, V⟩ := id G
  have w := I.1
  have h8 := w.1.2.1
  have hl8 := w.line8
  intro m
  induction m with
  | zero =>
    intro i fu hi hf
    cases fu with
    | zero => omega
    | succ fu =>
      have e : i = A.nF := by omega
      subst e
      have s326 : ∀ s, mX7_isSame_b326 (xs_sm A A.nF 0 0) h y s s = some (h, y, xs_sm A A.nF 0 0) := fun s => by
        unfold mX7_isSame_b326
        rw [if_pos rfl, xs_cIsStuck j, Option.bind_some]
        dsimp only
        rw [ys_isStuck R w.1, Option.bind_some]
        dsimp only
        rw [if_pos rfl]
      rw [mX7_isSame_b108, R.1.2.2, if_pos (Int32.le_refl _), xs_cTime j, Option.bind_some]
      dsimp only
      rw [if_pos R.2.1.1.symm, xs_cChannels j, Option.bind_some]
      dsimp only
      rw [if_pos ys_is4.2.2, R.1.1, if_pos rfl, xs_cFibers j, Option.bind_some]
      dsimp only
      rw [if_pos rfl, xs_cDone j, Option.bind_some]
      dsimp only
      rw [ys_done R w.1, Option.bind_some]
      dsimp only
      rw [if_pos rfl, xs_cIdle j, Option.bind_some]
      dsimp only
      rw [if_pos R.2.1.2.symm, xs_cNext j, Option.bind_some]
      dsimp only
      rw [if_pos ys_is4.1, R.len4]
      rcases xd_nx w with ⟨z1, z2⟩ | ⟨f, l, hf2, z1, z2⟩
      · rw [z2, z1, if_pos (show nI ([] : List Int32).length = 0 from rfl)]
        exact s326 (-1)
      · have hlen : (A.ls 0).length = l.length + 1 := by rw [z1]; rfl
        have ev : y.1 4 (Int32.toNatClampNeg (0 : Int32)) = nI f := by
          have := R.2.2.2.2.1.1.2 0 (by omega)
          rw [z1] at this
          exact this
        rw [if_neg (fun z => by have := (xd_nI0 (by omega)).mp z; omega), if_pos (show (yz_is y 4 2 && xo_ix (0 : Int32) (A.ls 0).length) = true by rw [ys_is4.1]; exact xs_ix (i := 0) (by omega) (by omega)), ev, z2]
        exact s326 (nI f)
  | succ m ih =>
    intro i fu hi hf
    cases fu with
    | zero => omega
    | succ fu =>
      have hg : i < A.nF := by omega
      have nx := ih (i + 1) fu (by omega) (by omega)
      rw [mX7_isSame_b108, if_neg (by rw [R.1.2.2]; exact nI_ge hg (by omega)), if_pos (R.ixF w.1 hg), if_pos ys_is4.1, R.len4, nI_clamp (by omega), ls_134 G hg (A.ls 0).length xo_n (Nat.le_refl _) (by show (A.ls 0).length < 300; omega) (fun k k1 k2 => absurd k2 (by omega))]
      rw [xd_sm_end, Nat.zero_add] at nx
      exact nx
theorem ls_61 (G : ys_G A h y) {c : Nat} (hc : c < A.nC) {K : xw_M → yz_Y → Int32 → Option (xw_M × yz_Y × Int32)} {a2 : Int32} : ∀ (m i fu : Nat), i + m = (A.ls (1 + c)).length → m < fu → mX7_isSame_b61 K a2 (nI c) fu h y (nI i) = K h y (nI (c + 1)) := by
  obtain ⟨j, I, Wt, R, V⟩ := id G
  have w := I.1
  have h4 := w.1.1
  obtain ⟨g1, g2, g3, g4, g5⟩ := R.chan w.1 hc
  obtain ⟨u1, u2, u3⟩ := w.full hc
  intro m
  induction m with
  | zero =>
    intro i fu hi hf
    cases fu with
    | zero => omega
    | succ fu => rw [mX7_isSame_b61, if_pos g1, nI_clamp (by omega), if_pos g2, g4, if_pos (nI_le (by omega) (by omega)), nI_1]
  | succ m ih =>
    intro i fu hi hf
    cases fu with
    | zero => omega
    | succ fu =>
      rw [mX7_isSame_b61, if_pos g1, nI_clamp (by omega), if_pos g2, g4, if_neg (nI_ge (by omega) (by omega)), xs_c_valueAt j hc (by omega), Option.bind_some]
      dsimp only
      rw [if_pos rfl, if_pos g1, if_pos (show (yz_is y (6 + c) 2 && xo_ix (nI i) (A.ls (1 + c)).length) = true by rw [g2, xs_ix (by omega) (by omega)]; rfl), nI_clamp (by omega), if_pos ((R.2.2.2.1 c hc).2 i (by omega)).symm, nI_1]
      exact ih (i + 1) fu (by omega) (by omega)
theorem ls_4 (G : ys_G A h y) : ∀ (m c fu : Nat), c + m = A.nC → m < fu → mX7_isSame_b4 0 fu h y (nI c) = some (h, y, xs_sm A A.nF 0 0) := by
  obtain ⟨j, I, Wt, R, V⟩ := id G
  have w := I.1
  have h4 := w.1.1
  have h8 := w.1.2.1
  intro m
  induction m with
  | zero =>
    intro c fu hc hf
    cases fu with
    | zero => omega
    | succ fu =>
      rw [mX7_isSame_b4, if_pos ys_is4.2.2, R.1.1, if_pos (nI_le (by omega) (by omega))]
      exact ls_108 G A.nF 0 xo_n (by omega) (by show A.nF < 300; omega)
  | succ m ih =>
    intro c fu hc hf
    cases fu with
    | zero => omega
    | succ fu =>
      have hc1 : c < A.nC := by omega
      obtain ⟨g1, g2, g3, g4, g5⟩ := R.chan w.1 hc1
      obtain ⟨u1, u2, u3⟩ := w.full hc1
      obtain ⟨w1, w2⟩ := ys_waitingAt R w hc1
      rw [mX7_isSame_b4, if_pos ys_is4.2.2, R.1.1, if_neg (nI_ge hc1 (by omega)), xs_c_held j hc1, Option.bind_some]
      dsimp only
      rw [if_pos rfl, if_pos g1, nI_clamp (by omega), if_pos g2, g4, if_pos rfl, xs_c_sendersAt j hc1, Option.bind_some]
      dsimp only
      rw [if_pos rfl, w1, Option.bind_some]
      dsimp only
      rw [if_pos rfl, xs_c_takersAt j hc1, Option.bind_some]
      dsimp only
      rw [if_pos rfl, w2, Option.bind_some]
      dsimp only
      rw [if_pos rfl, show (0 : Int32) = nI 0 from rfl, ls_61 G hc1 (A.ls (1 + c)).length 0 xo_n (by omega) (by show _ < 300; omega)]
      exact ih (c + 1) fu (by omega) (by omega)
theorem ls_same (G : ys_G A h y) : mX7_isSame h y = some (h, y, xs_sm A A.nF 0 0) := by
  have h4 := G.2.1.1.1.1
  exact ls_4 G A.nC 0 xo_n (by omega) (by show A.nC < 300; omega)
/-- all of the law's answers -/
theorem lw_pure_ok {L : Nat} {xs : Nat → Int32} (hL : L < 2 ^ 31) : lw_pure L xs := by
  obtain ⟨A1, h1, y1, e1, G1⟩ := ys_build (xs := xs) hL
  obtain ⟨A2, h2, y2, e2, G2⟩ := lw_all (xs := xs) hL G1
  have e3 := ls_same G2
  obtain ⟨j, I, Wt, R, V⟩ := id G2
  have e4 := xs_cMean j
  refine ⟨_, _, _, _, e1, e2, e3, e4, ?_, ?_⟩
  · unfold yz_mean
    show (if y2.2 3 = 0 then _ else _)
    rw [R.1.2.2]
    by_cases z : A2.nF = 0
    · rw [if_pos z, if_pos z]
    · rw [if_neg z, if_neg z]
  · show y2.2 3 ≤ 8
    rw [R.1.2.2]
    exact I.1.1.2.1
end LS
