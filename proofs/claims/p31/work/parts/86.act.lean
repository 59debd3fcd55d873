/-! class and law's clock act alike -/
section YD
variable {y y' : yz_Y} {A A' P : xs_A} {Wt : List Int32} {r : Nat} {h h' : xw_M}
theorem xd_and31 (a : Int32) : ¬ a &&& 2147483647 < 0 := by
  rw [Int32.lt_iff_toInt_lt]
  have e : (a &&& 2147483647).toInt = (a.toBitVec &&& 2147483647#32).toInt := rfl
  rw [e, BitVec.toInt_eq_toNat_cond, BitVec.toNat_and]
  have h : a.toBitVec.toNat &&& (2147483647#32).toNat ≤ 2147483647 := Nat.and_le_right
  rw [if_pos (by omega)]
  show ¬ ((_ : Nat) : Int) < 0
  omega
theorem xd_mod {i n : Nat} (hi : i < 2 ^ 31) (hn : n < 2 ^ 31) (h0 : 0 < n) : nI i - nI i / nI n * nI n = nI (i % n) := by
  have hm : i % n < n := Nat.mod_lt _ h0
  have hd : i / n ≤ i := Nat.div_le_self _ _
  have hmul : i / n * n ≤ i := Nat.div_mul_le_self _ _
  have bm : ∀ d : Nat, d < 2 ^ 31 → (d : Int).bmod (2 ^ 32) = d := fun d hd => Int.bmod_eq_of_le (by omega) (by omega)
  have e1 : nI i / nI n = nI (i / n) := by
    apply Int32.toInt_inj.mp
    rw [Int32.toInt_div, nI_toInt hi, nI_toInt hn, nI_toInt (by omega), Int.tdiv_eq_ediv_of_nonneg (by omega), ← Int.natCast_ediv]
    exact bm _ (Nat.lt_of_le_of_lt hd hi)
  have hh := Nat.mod_add_div' i n
  generalize hq : i / n * n = q at hmul hh
  have e2 : nI (i / n) * nI n = nI q := by
    apply Int32.toInt_inj.mp
    rw [Int32.toInt_mul, nI_toInt (Nat.lt_of_le_of_lt hd hi), nI_toInt hn, nI_toInt (by omega), ← Int.natCast_mul, hq]
    exact bm _ (by omega)
  rw [e1, e2]
  apply Int32.toInt_inj.mp
  generalize i % n = w at hm hh
  rw [Int32.toInt_sub, nI_toInt hi, nI_toInt (by omega), nI_toInt (by omega), show (i : Int) - (q : Int) = ((w : Nat) : Int) by omega]
  exact bm _ (by omega)
theorem ys_below {n : Nat} {b : Int32} (e : b = nI n) (h0 : 0 < n) (hn : n < 2 ^ 31) (a : Int32) : ∃ k, k < n ∧ mL_below a b y = some (y, nI k) := by
  obtain ⟨i, hi, ei⟩ := nI_of (xd_and31 a)
  refine ⟨i % n, Nat.mod_lt _ h0, ?_⟩
  unfold mL_below
  rw [ei, e, if_neg (fun z => by have := (nI_eq (b := 0) hn (by omega)).mp z; omega), xd_mod hi hn h0]
/-- class and law's clock show one clock -/
def ys_G (A : xs_A) (h : xw_M) (y : yz_Y) : Prop := xs_JC A h ∧ xd_I A ∧ ∃ Wt, ys_R y A Wt ∧ ys_V A Wt
def ys_ok (o : Option (xw_M × yz_Y × Int32)) : Prop := ∃ A' h' y', o = some (h', y', 1) ∧ ys_G A' h' y'
theorem ys_G.to {β : Type} {o : Option (yz_Y × β)} {b : β} (t : ys_to y o b A') (j : xs_JC A' h) (I : xd_I A') : ∃ y', o = some (y', b) ∧ ys_G A' h y' := by
  obtain ⟨y', Wt', q1, q2, q3, q4⟩ := t
  exact ⟨y', q1, j, I, Wt', q2, q3⟩
theorem ys_b36 (G : ys_G A h y) (x : Int32) : ys_ok (mL_act_b36 x (nI A.nC) 1 h y) := by
  obtain ⟨j, I, Wt, R, V⟩ := id G
  have h4 := I.1.1.1
  obtain ⟨k, hk, ek⟩ := ys_below (y := y) (b := 4) (n := 4) rfl (by omega) (by omega) (x >>> ((4 : Int32) &&& 31))
  have e1 : (1 : Int32) + nI k = nI (k + 1) := by rw [Int32.add_comm, nI_1]
  unfold mL_act_b36
  by_cases hc : A.nC < 4
  · rw [if_neg (by rw [xs_e4]; exact nI_ge hc (by omega))]
    unfold mL_act_b46
    rw [ek, Option.bind_some]
    obtain ⟨h', c1, c2, c3⟩ := xs_c_addChannel j I.1 hc (p := k + 1) (by omega) (by omega)
    have I' := I.addC hc (p := k + 1) (by omega) (by omega)
    obtain ⟨y', q1, q2⟩ := ys_G.to (ys_addChannel R V I hc (p := k + 1)) c2 I'
    show ys_ok (if (1 : Int32) = 0 then _ else _)
    rw [if_neg (by decide), e1, q1, Option.bind_some]
    unfold mL_act_b70
    rw [c1, Option.bind_some]
    refine ⟨_, h', y', ?_, q2⟩
    show (if (0 : Nat) = 0 then (if nI A.nC = nI A.nC then _ else _) else _) = _
    rw [if_pos rfl, if_pos rfl, if_neg (by decide)]
  · rw [if_pos (by rw [xs_e4]; exact nI_le (by omega) (by omega))]
    unfold mL_act_b46
    rw [ek, Option.bind_some]
    have c1 := xs_c2_addChannel j hc (p := k + 1) (by omega) (by omega)
    show ys_ok (if (0 : Int32) = 0 then _ else _)
    rw [if_pos rfl, e1]
    unfold mL_act_b70
    rw [c1, Option.bind_some]
    exact ⟨A, h, y, rfl, G⟩
theorem ys_b102 (G : ys_G A h y) : ys_ok (mL_act_b102 (nI A.nF) 1 h y) := by
  obtain ⟨j, I, Wt, R, V⟩ := id G
  have h8 := I.1.1.2.1
  unfold mL_act_b102
  by_cases hc : A.nF < 8
  · rw [if_neg (by rw [xs_e8]; exact nI_ge hc (by omega))]
    unfold mL_act_b114
    obtain ⟨h', c1, c2, c3⟩ := xs_c_addFiber j I.1 I.2.1 hc
    obtain ⟨y', q1, q2⟩ := ys_G.to (ys_addFiber R V I hc) c2 (I.addF hc)
    rw [if_neg (by decide), q1, Option.bind_some]
    unfold mL_act_b125
    rw [c1, Option.bind_some]
    refine ⟨_, h', y', ?_, q2⟩
    show (if (0 : Nat) = 0 then (if nI A.nF = nI A.nF then _ else _) else _) = _
    rw [if_pos rfl, if_pos rfl, if_neg (by decide)]
  · rw [if_pos (by rw [xs_e8]; exact nI_le (by omega) (by omega))]
    unfold mL_act_b114
    rw [if_pos rfl]
    unfold mL_act_b125
    rw [xs_c2_addFiber j hc, Option.bind_some]
    exact ⟨A, h, y, rfl, G⟩
theorem ys_b486 (G : ys_G A h y) {n : Nat} {b : Int32} (e : b = nI n) (h0 : 0 < n) (hn : n ≤ 60) (x : Int32) : ys_ok (mL_act_b486 1 1 h y b x 1) := by
  obtain ⟨j, I, Wt, R, V⟩ := id G
  obtain ⟨k, hk, ek⟩ := ys_below (y := y) e h0 (by omega) x
  have e1 : (1 : Int32) + nI k = nI (k + 1) := by rw [Int32.add_comm, nI_1]
  have hk1 : 1 ≤ k + 1 := by omega
  have hk2 : k + 1 ≤ 60 := by omega
  generalize k + 1 = m at e1 hk1 hk2
  obtain ⟨h', c1, c2, c3⟩ := xs_c_run j I.1 I.2.1 hk1 hk2
  obtain ⟨y', q1, q2⟩ := ys_G.to (ys_run R V I hk2) c2 (xd_I.turns m A I)
  generalize (A.turns m).a 10 0 - A.a 10 0 = v at c1 q1
  unfold mL_act_b486
  rw [ek, Option.bind_some]
  dsimp only
  rw [e1, c1, Option.bind_some]
  dsimp only
  rw [if_pos rfl, q1, Option.bind_some]
  dsimp only
  rw [if_pos rfl]
  exact ⟨_, h', y', rfl, q2⟩
theorem ys_b295 (G : ys_G A h y) {f : Nat} (hf : f < A.nF) (k o t : Int32) : ys_ok (mL_act_b295 1 1 (nI f) k o h y t) := by
  obtain ⟨j, I, Wt, R, V⟩ := id G
  have hs := I.1.1
  have h8 := hs.2.1
  have h12 := hs.2.2 f hf
  obtain ⟨b, e, hb⟩ := ys_canAdd R hs hf (x := k) (o := o) (t := t)
  unfold mL_act_b295
  rw [e, Option.bind_some]
  show ys_ok (if xo_ix (nI f) (y.2 3) = true then _ else none)
  rw [if_pos (R.ixF hs hf), nI_clamp (by omega)]
  show ys_ok (if yz_is y (10 + f) 1 = true then (if yz_is y (20 + f) 5 = true then (if (12 : Int32) ≤ nI (y.2 (20 + f)) then mL_act_b336 b (nI f) k o t (nI (y.2 (20 + f))) h y 0 else mL_act_b336 b (nI f) k o t (nI (y.2 (20 + f))) h y 1) else none) else none)
  rw [if_pos (R.isF hs hf), if_pos (R.isT hs hf), (R.2.2.2.2.2.2.1 f hf).1]
  have bad : ∀ a6 : Int32, b = 0 → ¬ xs_okS A f k o t → ys_ok (mL_act_b336 b (nI f) k o t (nI (A.sc f)) h y a6) := fun a6 eb ok => by
    unfold mL_act_b336
    rw [if_pos eb]
    unfold mL_act_b360
    rw [xs_c1_addStep j I.1 hf ok, Option.bind_some]
    show ys_ok (if (1 : Nat) = 0 then _ else if (1 : Nat) = 1 then (if b = 0 then some (h, y, (1 : Int32)) else _) else _)
    rw [if_neg (by decide), if_pos rfl, if_pos eb]
    exact ⟨A, h, y, rfl, G⟩
  rcases hb with ⟨eb, ok⟩ | ⟨eb, ok⟩
  · have b0 : ¬ b = 0 := by rw [eb]; decide
    by_cases hc : A.sc f < 12
    · rw [if_neg (by rw [xs_e12]; exact nI_ge hc (by omega))]
      obtain ⟨h', c1, c2, c3⟩ := xs_c_addStep j I.1 I.2.1 hf ok hc
      obtain ⟨y', q1, q2⟩ := ys_G.to (ys_addStep R V I hf hc (k := k) (o := o) (t := t)) c2 (I.grown hf ok hc)
      unfold mL_act_b336
      rw [if_neg b0, if_neg (by decide), q1, Option.bind_some]
      unfold mL_act_b360
      rw [c1, Option.bind_some]
      refine ⟨_, h', y', ?_, q2⟩
      show (if (0 : Nat) = 0 then (if nI (A.sc f) = nI (A.sc f) then (if b = 0 then _ else (if (1 : Int32) = 0 then _ else some (h', y', (1 : Int32)))) else _) else _) = _
      rw [if_pos rfl, if_pos rfl, if_neg b0, if_neg (by decide)]
    · rw [if_pos (by rw [xs_e12]; exact nI_le (by omega) (by omega))]
      unfold mL_act_b336
      rw [if_neg b0, if_pos rfl]
      unfold mL_act_b360
      rw [xs_c2_addStep j I.1 hf ok hc, Option.bind_some]
      show ys_ok (if (2 : Nat) = 0 then _ else if (2 : Nat) = 1 then _ else if (2 : Nat) = 2 then (if b = 0 then _ else (if (0 : Int32) = 0 then some (h, y, (1 : Int32)) else _)) else none)
      rw [if_neg (by decide), if_neg (by decide), if_pos rfl, if_neg b0, if_pos rfl]
      exact ⟨A, h, y, rfl, G⟩
  · split
    · exact bad _ eb ok
    · exact bad _ eb ok
theorem ys_b263 (G : ys_G A h y) {f : Nat} (hf : f < A.nF) (x k o : Int32) : ys_ok (mL_act_b263 x 1 1 (nI f) k h y o) := by
  unfold mL_act_b263
  split
  · obtain ⟨i, _, ei⟩ := ys_below (y := y) (b := 3) (n := 3) rfl (by omega) (by omega) (x >>> ((4 : Int32) &&& 31))
    rw [ei, Option.bind_some]
    exact ys_b295 G hf _ _ _
  · obtain ⟨i, _, ei⟩ := ys_below (y := y) (b := 200) (n := 200) rfl (by omega) (by omega) (x >>> ((2 : Int32) &&& 31))
    rw [ei, Option.bind_some]
    exact ys_b295 G hf _ _ _
theorem ys_b215 (G : ys_G A h y) {f : Nat} (hf : f < A.nF) (hC : 0 < A.nC) (x k : Int32) : ys_ok (mL_act_b215 x (nI A.nC) (nI A.nF) 1 1 (nI f) h y k) := by
  have h4 := G.2.1.1.1.1
  have h8 := G.2.1.1.1.2.1
  have q : ∀ (n : Nat) (b : Int32), b = nI n → 0 < n → n < 2 ^ 31 → ∀ v k, ys_ok (mL_act_b260 x 1 1 (nI f) k h y b v) := fun n b e h0 hn v k => by
    unfold mL_act_b260
    obtain ⟨i, _, ei⟩ := ys_below (y := y) e h0 hn v
    rw [ei, Option.bind_some]
    exact ys_b263 G hf _ _ _
  unfold mL_act_b215
  split
  · obtain ⟨i, _, ei⟩ := ys_below (y := y) (b := 5) (n := 5) rfl (by omega) (by omega) (x >>> ((3 : Int32) &&& 31))
    rw [ei, Option.bind_some]
    exact ys_b263 G hf _ _ _
  split
  · exact q A.nF _ rfl (by omega) (by omega) _ _
  split
  · exact q 4 _ rfl (by omega) (by omega) _ _
  · exact q A.nC _ rfl hC (by omega) _ _
end YD
section YE
variable {y y' : yz_Y} {A A' P : xs_A} {Wt : List Int32} {r : Nat} {h h' : xw_M}
theorem ys_pour (G : ys_G A h y) {c : Nat} (hc : c < A.nC) {v : Int32} (hv : ¬ v < -999 ∧ ¬ 999 < v) : ys_ok ((mX7_isSent (nI c) v y).bind fun r31 => (mX5_pour 350 (nI c) v h).bind fun r34 => (if r34.2.2 = 0 then if xo_ix (nI c) (r31.1.2 2) = true then if yz_is r31.1 (6 + (Int32.toNatClampNeg (nI c))) 2 = true then (if r34.2.1 = (nI (r31.1.2 (6 + (Int32.toNatClampNeg (nI c))))) then (if r31.2 = 0 then some (r34.1, r31.1, (0 : Int32)) else some (r34.1, r31.1, (1 : Int32))) else some (r34.1, r31.1, (0 : Int32))) else none else none else if r34.2.2 = 1 then (if (1 : Int32) = 0 then some (r34.1, r31.1, (1 : Int32)) else some (r34.1, r31.1, (0 : Int32))) else if r34.2.2 = 2 then (if (1 : Int32) = 0 then some (r34.1, r31.1, (0 : Int32)) else (if r31.2 = 0 then some (r34.1, r31.1, (1 : Int32)) else some (r34.1, r31.1, (0 : Int32)))) else none)) := by
  obtain ⟨j, I, Wt, R, V⟩ := id G
  have hs := I.1.1
  have h4 := hs.1
  obtain ⟨s1, s2⟩ := ys_isSent (c := c) (v := v) R V I.1 hc
  by_cases hn : A.a 8 c ≤ nI (A.ls (1 + c)).length
  · rw [s1 hn, xs_c2_pour j I.1 hc hv hn, Option.bind_some, Option.bind_some]
    exact ⟨A, h, y, rfl, G⟩
  · obtain ⟨h', c1, c2, c3⟩ := xs_c_pour j I.1 I.2.1 hc hv hn
    have I' := I.put hc (v := v) hn
    obtain ⟨y', Wt', q1, q2, q3, q4⟩ := s2 hn
    have hc' : c < (A.put c v).nC := by rw [(xs_ss_put (c := c) (v := v)).1]; exact hc
    obtain ⟨g1, g2, g3, g4, g5⟩ := q2.chan I'.1.1 hc'
    rw [q1, c1, Option.bind_some, Option.bind_some]
    dsimp only
    rw [if_pos rfl, if_pos g1, nI_clamp (by omega), if_pos g2, g4, if_pos rfl, if_neg (by decide)]
    exact ⟨_, h', y', rfl, c2, I', Wt', q2, q3⟩
theorem ys_val {i : Nat} (hi : i < 200) : ¬ nI i - 99 < -999 ∧ ¬ 999 < nI i - 99 := by
  have e : (nI i - 99).toInt = (i : Int) - 99 := by
    rw [Int32.toInt_sub, nI_toInt (by omega), show (99 : Int32).toInt = 99 from rfl, Int.bmod_eq_of_le (by omega) (by omega)]
  rw [Int32.lt_iff_toInt_lt, Int32.lt_iff_toInt_lt, e, show (-999 : Int32).toInt = -999 from rfl, show (999 : Int32).toInt = 999 from rfl]
  omega
set_option maxRecDepth 4000 in
theorem ys_act (G : ys_G A h y) (x : Int32) : ys_ok (mL_act x h y) := by
  obtain ⟨j, I, Wt, R, V⟩ := id G
  have hs := I.1.1
  have h4 := hs.1
  have h8 := hs.2.1
  obtain ⟨k1, hk1, ek1⟩ := ys_below (y := y) (b := 16) (n := 16) rfl (by omega) (by omega) x
  unfold mL_act
  rw [if_pos ys_is4.2.2, ek1, Option.bind_some, R.1.1, R.1.2.2]
  dsimp only
  by_cases z1 : nI A.nC = 0
  · rw [if_pos z1]
    exact ys_b36 G x
  rw [if_neg z1]
  have hC : 0 < A.nC := Nat.pos_of_ne_zero (fun z => z1 (by rw [z]; rfl))
  by_cases z2 : nI k1 = 0
  · rw [if_pos z2]
    exact ys_b36 G x
  rw [if_neg z2]
  by_cases z3 : nI A.nF = 0
  · rw [if_pos z3]
    exact ys_b102 G
  rw [if_neg z3]
  have hF : 0 < A.nF := Nat.pos_of_ne_zero (fun z => z3 (by rw [z]; rfl))
  by_cases z4 : nI k1 = 1
  · rw [if_pos z4]
    exact ys_b102 G
  rw [if_neg z4]
  by_cases z5 : (9 : Int32) ≤ nI k1
  · rw [if_pos z5]
    by_cases z6 : (11 : Int32) ≤ nI k1
    · rw [if_pos z6]
      obtain ⟨k2, hk2, ek2⟩ := ys_below (y := y) (b := 6) (n := 6) rfl (by omega) (by omega) (x >>> ((8 : Int32) &&& 31))
      rw [ek2, Option.bind_some]
      dsimp only
      split
      · exact ys_b486 G (b := 60) (n := 60) rfl (by omega) (by omega) _
      · exact ys_b486 G (b := 5) (n := 5) rfl (by omega) (by omega) _
    · rw [if_neg z6]
      obtain ⟨c, hc, ec⟩ := ys_below (y := y) (b := nI A.nC) (n := A.nC) rfl hC (by omega) (x >>> ((4 : Int32) &&& 31))
      obtain ⟨i, hi, ei⟩ := ys_below (y := y) (b := 200) (n := 200) rfl (by omega) (by omega) (x >>> ((6 : Int32) &&& 31))
      rw [ec, Option.bind_some]
      dsimp only
      rw [ei, Option.bind_some]
      dsimp only
      exact ys_pour G hc (ys_val hi)
  · rw [if_neg z5]
    obtain ⟨f, hf, ef⟩ := ys_below (y := y) (b := nI A.nF) (n := A.nF) rfl hF (by omega) (x >>> ((4 : Int32) &&& 31))
    obtain ⟨k2, hk2, ek2⟩ := ys_below (y := y) (b := 4) (n := 4) rfl (by omega) (by omega) (x >>> ((7 : Int32) &&& 31))
    obtain ⟨k3, hk3, ek3⟩ := ys_below (y := y) (b := 7) (n := 7) rfl (by omega) (by omega) (x >>> ((5 : Int32) &&& 31))
    obtain ⟨k4, hk4, ek4⟩ := ys_below (y := y) (b := 2) (n := 2) rfl (by omega) (by omega) (x >>> ((6 : Int32) &&& 31))
    obtain ⟨k5, hk5, ek5⟩ := ys_below (y := y) (b := 2) (n := 2) rfl (by omega) (by omega) (x >>> ((9 : Int32) &&& 31))
    obtain ⟨k6, hk6, ek6⟩ := ys_below (y := y) (b := 7) (n := 7) rfl (by omega) (by omega) (x >>> ((8 : Int32) &&& 31))
    rw [ef, Option.bind_some]
    dsimp only
    rw [ek2, Option.bind_some]
    dsimp only
    split
    · rw [ek3, Option.bind_some]
      exact ys_b215 G hf hC x _
    · rw [ek4, Option.bind_some]
      dsimp only
      split
      · rw [ek5, Option.bind_some]
        exact ys_b215 G hf hC x _
      · rw [ek6, Option.bind_some]
        exact ys_b215 G hf hC x _
/-! the first memory -/
theorem ys_cell {L : Nat} {xs : Nat → Int32} (hL : L < 2 ^ 31) {a : Nat} (ha : a < 2 ^ 31) : ∃ v, mL_cell L xs (nI a) y = some (y, v) := by
  unfold mL_cell
  by_cases h : nI L ≤ nI a
  · rw [if_pos h]; exact ⟨_, rfl⟩
  · rw [if_neg h, if_pos (xs_ix (Nat.lt_of_not_le (fun z => h (nI_le z ha))) hL)]; exact ⟨_, rfl⟩
end YE
