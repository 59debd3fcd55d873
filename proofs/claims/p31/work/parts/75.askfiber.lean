/-! the class answers of a fiber, of a channel -/
section AF
variable {h : xw_M} {A : xs_A} {k : Nat}
theorem xs_c_stateOf (j : xs_JC A h) {f : Nat} (hf : f < A.nF) : mX5_stateOf 350 (nI f) h = some (h, A.a 1 f, 0) := by
  have h8 := j.1.bd.2
  unfold mX5_stateOf
  rw [xs_ckF1 j.1 hf, Option.bind_some, xs_th0, xs_fiberAt (by omega), Option.bind_some]
  dsimp only
  rw [j.1.getF (t := 1) (by omega) hf]
theorem xs_c0_stateOf (j : xs_JC A h) {x : Int32} (hx : ∀ f, f < A.nF → x ≠ nI f) : mX5_stateOf 350 x h = some (h, 0, 3) := by
  unfold mX5_stateOf
  rw [xs_ckF0 j.1 hx, Option.bind_some, xs_th3]
theorem xs_c_placeOf (j : xs_JC A h) {f : Nat} (hf : f < A.nF) : mX5_placeOf 350 (nI f) h = some (h, A.a 2 f, 0) := by
  have h8 := j.1.bd.2
  unfold mX5_placeOf
  rw [xs_ckF1 j.1 hf, Option.bind_some, xs_th0, xs_fiberAt (by omega), Option.bind_some]
  dsimp only
  rw [j.1.getF (t := 2) (by omega) hf]
theorem xs_c0_placeOf (j : xs_JC A h) {x : Int32} (hx : ∀ f, f < A.nF → x ≠ nI f) : mX5_placeOf 350 x h = some (h, 0, 3) := by
  unfold mX5_placeOf
  rw [xs_ckF0 j.1 hx, Option.bind_some, xs_th3]
theorem xs_c_sumOf (j : xs_JC A h) {f : Nat} (hf : f < A.nF) : mX5_sumOf 350 (nI f) h = some (h, A.a 3 f, 0) := by
  have h8 := j.1.bd.2
  unfold mX5_sumOf
  rw [xs_ckF1 j.1 hf, Option.bind_some, xs_th0, xs_fiberAt (by omega), Option.bind_some]
  dsimp only
  rw [j.1.getF (t := 3) (by omega) hf]
theorem xs_c0_sumOf (j : xs_JC A h) {x : Int32} (hx : ∀ f, f < A.nF → x ≠ nI f) : mX5_sumOf 350 x h = some (h, 0, 3) := by
  unfold mX5_sumOf
  rw [xs_ckF0 j.1 hx, Option.bind_some, xs_th3]
theorem xs_c_stepsDone (j : xs_JC A h) {f : Nat} (hf : f < A.nF) : mX5_stepsDone 350 (nI f) h = some (h, A.a 4 f, 0) := by
  have h8 := j.1.bd.2
  unfold mX5_stepsDone
  rw [xs_ckF1 j.1 hf, Option.bind_some, xs_th0, xs_fiberAt (by omega), Option.bind_some]
  dsimp only
  rw [j.1.getF (t := 4) (by omega) hf]
theorem xs_c0_stepsDone (j : xs_JC A h) {x : Int32} (hx : ∀ f, f < A.nF → x ≠ nI f) : mX5_stepsDone 350 x h = some (h, 0, 3) := by
  unfold mX5_stepsDone
  rw [xs_ckF0 j.1 hx, Option.bind_some, xs_th3]
theorem xs_c_turnsOf (j : xs_JC A h) {f : Nat} (hf : f < A.nF) : mX5_turnsOf 350 (nI f) h = some (h, A.a 5 f, 0) := by
  have h8 := j.1.bd.2
  unfold mX5_turnsOf
  rw [xs_ckF1 j.1 hf, Option.bind_some, xs_th0, xs_fiberAt (by omega), Option.bind_some]
  dsimp only
  rw [j.1.getF (t := 5) (by omega) hf]
theorem xs_c0_turnsOf (j : xs_JC A h) {x : Int32} (hx : ∀ f, f < A.nF → x ≠ nI f) : mX5_turnsOf 350 x h = some (h, 0, 3) := by
  unfold mX5_turnsOf
  rw [xs_ckF0 j.1 hx, Option.bind_some, xs_th3]
theorem xs_c_held (j : xs_JC A h) {c : Nat} (hc : c < A.nC) : mX5_held 350 (nI c) h = some (h, nI (A.ls (1 + c)).length, 0) := by
  have h4 := j.1.bd.1
  have q := (xs_len j.1 (n := 1 + c) (by unfold xs_A.nL; omega)).1
  unfold mX5_held
  rw [xs_ckC1 j.1 hc, Option.bind_some, xs_th0, xs_channelAt (by omega), Option.bind_some]
  dsimp only
  rw [xs_q1 (by omega), q]
theorem xs_c0_held (j : xs_JC A h) {x : Int32} (hx : ∀ c, c < A.nC → x ≠ nI c) : mX5_held 350 x h = some (h, 0, 3) := by
  unfold mX5_held
  rw [xs_ckC0 j.1 hx, Option.bind_some, xs_th3]
theorem xs_c_sendersAt (j : xs_JC A h) {c : Nat} (hc : c < A.nC) : mX5_sendersAt 350 (nI c) h = some (h, nI (A.ls (5 + c)).length, 0) := by
  have h4 := j.1.bd.1
  have q := (xs_len j.1 (n := 5 + c) (by unfold xs_A.nL; omega)).1
  unfold mX5_sendersAt
  rw [xs_ckC1 j.1 hc, Option.bind_some, xs_th0, xs_channelAt (by omega), Option.bind_some]
  dsimp only
  rw [xs_q5 (by omega), q]
theorem xs_c0_sendersAt (j : xs_JC A h) {x : Int32} (hx : ∀ c, c < A.nC → x ≠ nI c) : mX5_sendersAt 350 x h = some (h, 0, 3) := by
  unfold mX5_sendersAt
  rw [xs_ckC0 j.1 hx, Option.bind_some, xs_th3]
theorem xs_c_takersAt (j : xs_JC A h) {c : Nat} (hc : c < A.nC) : mX5_takersAt 350 (nI c) h = some (h, nI (A.ls (9 + c)).length, 0) := by
  have h4 := j.1.bd.1
  have q := (xs_len j.1 (n := 9 + c) (by unfold xs_A.nL; omega)).1
  unfold mX5_takersAt
  rw [xs_ckC1 j.1 hc, Option.bind_some, xs_th0, xs_channelAt (by omega), Option.bind_some]
  dsimp only
  rw [xs_q9 (by omega), q]
theorem xs_c0_takersAt (j : xs_JC A h) {x : Int32} (hx : ∀ c, c < A.nC → x ≠ nI c) : mX5_takersAt 350 x h = some (h, 0, 3) := by
  unfold mX5_takersAt
  rw [xs_ckC0 j.1 hx, Option.bind_some, xs_th3]
theorem xs_c_valueAt (j : xs_JC A h) {c i : Nat} (hc : c < A.nC) (hi : i < (A.ls (1 + c)).length) : mX5_valueAt 350 (nI c) (nI i) h = some (h, (A.ls (1 + c)).getD i 0, 0) := by
  have h4 := j.1.bd.1
  have q := j.1.que (1 + c) (by unfold xs_A.nL; omega)
  have hq := q.1
  have q1 := q.2.1
  unfold mX5_valueAt
  rw [xs_ckC1 j.1 hc, Option.bind_some, xs_th0, xs_channelAt (by omega), Option.bind_some]
  dsimp only
  rw [xs_q1 (by omega), if_neg (nI_pos (by omega)), if_pos (by rw [q1]; exact nI_lt hi (by omega)), xs_look q hi, Option.bind_some]
theorem xs_c1_valueAt (j : xs_JC A h) {c : Nat} {y : Int32} (hc : c < A.nC) (hy : ∀ i, i < (A.ls (1 + c)).length → y ≠ nI i) : mX5_valueAt 350 (nI c) y h = some (h, 0, 3) := by
  have h4 := j.1.bd.1
  have q := j.1.que (1 + c) (by unfold xs_A.nL; omega)
  have hq := q.1
  have q1 := q.2.1
  unfold mX5_valueAt
  rw [xs_ckC1 j.1 hc, Option.bind_some, xs_th0, xs_channelAt (by omega), Option.bind_some]
  dsimp only
  rw [xs_q1 (by omega)]
  by_cases h0 : y < 0
  · rw [if_pos h0]
  · obtain ⟨i, hi, rfl⟩ := nI_of h0
    have : (A.ls (1 + c)).length ≤ i := Nat.le_of_not_lt (fun z => hy i z rfl)
    rw [if_neg h0, if_neg (by rw [q1]; exact nI_nlt this hi)]
theorem xs_c0_valueAt (j : xs_JC A h) {x y : Int32} (hx : ∀ c, c < A.nC → x ≠ nI c) : mX5_valueAt 350 x y h = some (h, 0, 3) := by
  unfold mX5_valueAt
  rw [xs_ckC0 j.1 hx, Option.bind_some, xs_th3]
theorem xs_c_placeInLine (j : xs_JC A h) {f : Nat} (hf : f < A.nF) : mX5_placeInLine 350 (nI f) h = some (h, xs_ff (nI f) (A.ls 0) 0, 0) := by
  have q : xs_Q h (0 + 3) (A.ls 0) := j.1.que 0 (Or.inl rfl)
  unfold mX5_placeInLine
  rw [xs_ckF1 j.1 hf, Option.bind_some, xs_th0, xs_find q, Option.bind_some]
theorem xs_c0_placeInLine (j : xs_JC A h) {x : Int32} (hx : ∀ f, f < A.nF → x ≠ nI f) : mX5_placeInLine 350 x h = some (h, 0, 3) := by
  unfold mX5_placeInLine
  rw [xs_ckF0 j.1 hx, Option.bind_some, xs_th3]
theorem xs_c_turnsUntilDone (j : xs_JC A h) (w : xs_W A 99) (fa : xs_fresh A) {f : Nat} (hf : f < A.nF) : xs_cS h (mX5_turnsUntilDone 350 (nI f) h) (xs_udv (fun P => P.a 1 f = 5) A, 0) A := by
  have h8 := j.1.bd.2
  unfold mX5_turnsUntilDone
  rw [xs_ckF1 j.1 hf, Option.bind_some, xs_th0]
  obtain ⟨h1, e1, C1, o1⟩ := j.2.like j.1 w.1 fa
  rw [e1, Option.bind_some]
  dsimp only
  rw [xs_fiberAt (by omega), Option.bind_some]
  dsimp only
  obtain ⟨h2, v, T, e2, u2, C2, w2, f2, o2⟩ := xs_cUd (f := f) 200 0 xo_n h1 A C1 w hf (by omega) (by decide)
  rw [xs_udv_eq u2] at e2
  exact ⟨h2, e2, ⟨j.1.off w.1 (o1.tr o2) (fun c hc => xs_rgs hc), xs_Tr.of C2 f2 fa w.1⟩, fun c hc => (o1.tr o2) c (by unfold xs_rg; omega)⟩
theorem xs_c0_turnsUntilDone (j : xs_JC A h) {x : Int32} (hx : ∀ f, f < A.nF → x ≠ nI f) : mX5_turnsUntilDone 350 x h = some (h, 0, 3) := by
  unfold mX5_turnsUntilDone
  rw [xs_ckF0 j.1 hx, Option.bind_some, xs_th3]
theorem xs_c_sumIn (j : xs_JC A h) (w : xs_W A 99) (fa : xs_fresh A) {f t : Nat} (hf : f < A.nF) (h1 : 1 ≤ t) (h2 : t ≤ 60) : xs_cS h (mX5_sumIn 350 (nI f) (nI t) h) ((A.turns t).a 3 f, 0) A := by
  have h8 := j.1.bd.2
  unfold mX5_sumIn
  rw [xs_ckF1 j.1 hf, Option.bind_some, xs_th0, xs_ckT1 h1 h2, Option.bind_some, xs_th0]
  obtain ⟨h1, e1, C1, o1⟩ := j.2.like j.1 w.1 fa
  rw [e1, Option.bind_some]
  obtain ⟨h2, e2, C2, w2, f2, o2⟩ := xs_cSum (f := f) t 0 xo_n h1 A C1 w hf (by omega) (by show t < 300; omega)
  rw [Nat.zero_add] at e2
  exact ⟨h2, e2, ⟨j.1.off w.1 (o1.tr o2) (fun c hc => xs_rgs hc), xs_Tr.of C2 f2 fa w.1⟩, fun c hc => (o1.tr o2) c (by unfold xs_rg; omega)⟩
theorem xs_c0_sumIn (j : xs_JC A h) {x y : Int32} (hx : ∀ f, f < A.nF → x ≠ nI f) : mX5_sumIn 350 x y h = some (h, 0, 3) := by
  unfold mX5_sumIn
  rw [xs_ckF0 j.1 hx, Option.bind_some, xs_th3]
theorem xs_c1_sumIn (j : xs_JC A h) {f : Nat} {y : Int32} (hf : f < A.nF) (hy : ∀ t, 1 ≤ t → t ≤ 60 → y ≠ nI t) : mX5_sumIn 350 (nI f) y h = some (h, 0, 1) := by
  unfold mX5_sumIn
  rw [xs_ckF1 j.1 hf, Option.bind_some, xs_th0, xs_ckT0 hy, Option.bind_some, xs_th1]
theorem xs_W.pw (w : xs_W A 99) {c : Nat} (hc : c < A.nC) : ∃ p, 1 ≤ p ∧ p ≤ 8 ∧ A.a 8 c = nI p ∧ (A.ls (1 + c)).length ≤ p := w.2.2.2.2.1 c hc
theorem xs_c_placesWanted (j : xs_JC A h) (w : xs_W A 99) (fa : xs_fresh A) {c : Nat} (hc : c < A.nC) : xs_cS h (mX5_placesWanted 350 (nI c) h) (xs_pwv A c, 0) A := by
  have h4 := j.1.bd.1
  obtain ⟨p, p1, p2, p3, p4⟩ := w.pw hc
  unfold mX5_placesWanted
  rw [xs_ckC1 j.1 hc, Option.bind_some, xs_th0, xs_channelAt (by omega), Option.bind_some]
  dsimp only
  rw [xs_places j.1 hc, p3]
  obtain ⟨h2, v, e2, u2, C2, t2, o2⟩ := xs_cPw w fa hc p1 p4 (9 - p) p xo_n h (by omega) (Nat.le_refl _) (by show 9 - p < 300; omega) j.1 j.2
  rw [xs_pwv_eq p3 p2 u2] at e2
  exact ⟨h2, e2, ⟨C2, t2⟩, fun c hc => o2 c (by unfold xs_rg; omega)⟩
theorem xs_c0_placesWanted (j : xs_JC A h) {x : Int32} (hx : ∀ c, c < A.nC → x ≠ nI c) : mX5_placesWanted 350 x h = some (h, 0, 3) := by
  unfold mX5_placesWanted
  rw [xs_ckC0 j.1 hx, Option.bind_some, xs_th3]
theorem xs_cMeanL (j : xs_JC A h) : ∀ (m i n : Nat) (s : Int32), i + m = A.nF → m < n → mX5_meanTurns_b16 350 n h s (nI i) = some (h, 1, xs_sm A m i s, nI A.nF) := by
  have h8 := j.1.bd.2
  intro m
  induction m with
  | zero =>
    intro i n s hi hn
    cases n with
    | zero => omega
    | succ n =>
      unfold mX5_meanTurns_b16 xs_sm
      rw [if_pos (by rw [j.1.c6]; exact nI_le (by omega) (by omega)), j.1.c6]
  | succ m ih =>
    intro i n s hi hn
    cases n with
    | zero => omega
    | succ n =>
      have hi2 : i < A.nF := by omega
      unfold mX5_meanTurns_b16 xs_sm
      rw [if_neg (by rw [j.1.c6]; exact nI_ge hi2 (by omega)), xs_fiberAt (by omega), Option.bind_some]
      dsimp only
      rw [j.1.getF (t := 5) (by omega) hi2, nI_1]
      exact ih (i + 1) n _ (by omega) (by omega)
theorem xs_cMean (j : xs_JC A h) : mX5_meanTurns 350 h = some (h, if A.nF = 0 then (0, 0, 0) else (1, xs_sm A A.nF 0 0, nI A.nF)) := by
  have h8 := j.1.bd.2
  unfold mX5_meanTurns
  by_cases e : A.nF = 0
  · rw [if_neg (by rw [j.1.c6, e]; decide), if_pos e]
  · rw [if_pos (by rw [j.1.c6]; exact nI_lt (a := 0) (by omega) (by omega)), if_neg e]
    exact xs_cMeanL j A.nF 0 xo_n 0 (by omega) (by show A.nF < 300; omega)
end AF
