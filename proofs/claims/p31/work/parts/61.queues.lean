/-! the pure part: what the memories say. Queues -/
def xs_Q (h : xw_M) (k : Nat) (l : List Int32) : Prop := l.length ≤ 8 ∧ h k 1 = nI l.length ∧ ∀ i, i < l.length → h (k + 1) i = l.getD i 0
/-- nothing changes off these codes -/
def xs_off (P : Nat → Prop) (h h' : xw_M) : Prop := ∀ c, ¬ P c → h' c = h c
theorem xs_off.rf {P : Nat → Prop} {h : xw_M} : xs_off P h h := fun _ _ => rfl
theorem xs_off.tr {P : Nat → Prop} {h h1 h2 : xw_M} (a : xs_off P h h1) (b : xs_off P h1 h2) : xs_off P h h2 := fun c hc => (b c hc).trans (a c hc)
theorem xs_off.mono {P P2 : Nat → Prop} {h h1 : xw_M} (a : xs_off P h h1) (hp : ∀ c, P c → P2 c) : xs_off P2 h h1 := fun c hc => a c (fun z => hc (hp c z))
theorem xs_off.st {P : Nat → Prop} {h : xw_M} {k j : Nat} {v : Int32} (hk : P k) : xs_off P h (xw_st h k j v) := fun c hc => xw_st_ne _ _ _ _ (fun z => hc (z ▸ hk))
theorem xs_Q.same {h h' : xw_M} {k : Nat} {l : List Int32} (hQ : xs_Q h k l) (h1 : h' k = h k) (h2 : h' (k + 1) = h (k + 1)) : xs_Q h' k l := by
  unfold xs_Q
  rw [h1, h2]
  exact hQ
theorem xs_Q.off {P : Nat → Prop} {h h' : xw_M} {k : Nat} {l : List Int32} (hQ : xs_Q h k l) (ho : xs_off P h h') (h1 : ¬ P k) (h2 : ¬ P (k + 1)) : xs_Q h' k l := hQ.same (ho k h1) (ho (k + 1) h2)
theorem xs_gd {l : List Int32} {x : Int32} {i : Nat} : (l ++ [x]).getD i 0 = if i < l.length then l.getD i 0 else if i = l.length then x else 0 := by
  rw [List.getD_eq_getElem?_getD, List.getElem?_append]
  split
  · rw [List.getD_eq_getElem?_getD]
  · split
    · rename_i h1 h2
      rw [h2, Nat.sub_self]
      rfl
    · rename_i h1 h2
      rw [List.getElem?_eq_none (by simp; omega)]
      rfl
theorem xs_e8 : (8 : Int32) = nI 8 := by decide
theorem xs_e4 : (4 : Int32) = nI 4 := by decide
theorem xs_e12 : (12 : Int32) = nI 12 := by decide
theorem xs_e1 : (1 : Int32) = nI 1 := by decide
theorem xs_e0 : (0 : Int32) = nI 0 := by decide
def xs_kQ (k c : Nat) : Prop := c = k ∨ c = k + 1
theorem xs_addLast {h : xw_M} {k : Nat} {l : List Int32} (x : Int32) (hQ : xs_Q h k l) (hl : l.length < 8) : ∃ h', mX3_addLast k x h = some (h', ()) ∧ xs_Q h' k (l ++ [x]) ∧ xs_off (xs_kQ k) h h' := by
  obtain ⟨q1, q2, q3⟩ := hQ
  unfold mX3_addLast xo_let
  rw [if_neg (by rw [q2]; exact nI_pos (by omega)), if_neg (by rw [q2, xs_e8]; exact nI_ge hl (by decide)), if_pos (by rw [q2]; exact xs_ix hl (by decide))]
  refine ⟨_, rfl, ⟨by rw [List.length_append]; show l.length + 1 ≤ 8; omega, ?_, fun i hi => ?_⟩, (xs_off.st (Or.inr rfl)).tr (xs_off.st (Or.inl rfl))⟩
  · rw [xw_st_eq, xw_st_ne _ _ _ _ (by omega), q2, nI_1, List.length_append]
    exact if_pos rfl
  · rw [xw_st_ne _ _ _ _ (by omega), xw_st_eq, q2, nI_clamp (by omega), xs_gd]
    have hi : i < l.length + 1 := by rw [List.length_append] at hi; exact hi
    show (if i = l.length then x else h (k + 1) i) = _
    split
    · rename_i h1
      rw [if_neg (by omega)]
    · rename_i h1
      rw [if_pos (by omega)]
      exact q3 i (by omega)
theorem xs_take_loop {k : Nat} {l : List Int32} {a1 : Int32} (hl : l.length ≤ 8) : ∀ (n i : Nat) (h : xw_M), l.length < n + i → 1 ≤ i → i ≤ l.length → h k 1 = nI l.length → (∀ j, j < l.length → h (k + 1) j = if j + 1 < i then l.getD (j + 1) 0 else l.getD j 0) → ∃ h', mX3_takeFirst_b26 k a1 n h (nI i) = some (h', a1) ∧ h' k 1 = nI (l.length - 1) ∧ (∀ j, j + 1 < l.length → h' (k + 1) j = l.getD (j + 1) 0) ∧ xs_off (xs_kQ k) h h' := by
  intro n
  induction n with
  | zero => intro i h h1 h2 h3; omega
  | succ n ih =>
    intro i h h1 h2 h3 h4 h5
    unfold mX3_takeFirst_b26
    by_cases hi : i = l.length
    · rw [if_pos (by rw [h4, hi]; exact Int32.le_refl _)]
      unfold mX3_takeFirst_b63 xo_let
      refine ⟨_, rfl, ?_, fun j hj => ?_, xs_off.st (Or.inl rfl)⟩
      · rw [xw_st_eq, h4]
        show (if 1 = 1 then nI l.length - 1 else _) = _
        rw [if_pos rfl, ← nI_pred (l.length - 1), Nat.sub_add_cancel (by omega)]
      · rw [xw_st_ne _ _ _ _ (by omega), h5 j (by omega), if_pos (by omega)]
    · rw [if_neg (by rw [h4]; exact nI_ge (by omega) (by omega)), if_neg (by rw [xs_e8]; exact nI_ge (by omega) (by decide)), if_pos (xs_ix (by omega) (by decide))]
      have e : nI i - 1 = nI (i - 1) := by rw [← nI_pred (i - 1), Nat.sub_add_cancel h2]
      rw [e, if_pos (xs_ix (by omega) (by decide)), nI_clamp (by omega), nI_clamp (by omega), nI_1]
      unfold xo_let
      obtain ⟨h', g1, g2, g3, g4⟩ := ih (i + 1) (xw_st h (k + 1) (i - 1) (h (k + 1) i)) (by omega) (by omega) (by omega) (by rw [xw_st_ne _ _ _ _ (by omega)]; exact h4) (fun j hj => by
        rw [xw_st_eq]
        show (if j = i - 1 then h (k + 1) i else h (k + 1) j) = _
        by_cases hj2 : j = i - 1
        · rw [if_pos hj2, if_pos (by omega), h5 i (by omega), if_neg (by omega), hj2, Nat.sub_add_cancel h2]
        · rw [if_neg hj2, h5 j hj]
          by_cases hj3 : j + 1 < i
          · rw [if_pos hj3, if_pos (by omega)]
          · rw [if_neg hj3, if_neg (by omega)])
      exact ⟨h', g1, g2, g3, (xs_off.st (Or.inr rfl)).tr g4⟩
theorem xs_takeFirst {h : xw_M} {k : Nat} {x : Int32} {l : List Int32} (hQ : xs_Q h k (x :: l)) : ∃ h', mX3_takeFirst k h = some (h', x) ∧ xs_Q h' k l ∧ xs_off (xs_kQ k) h h' := by
  obtain ⟨q1, q2, q3⟩ := hQ
  have q1 : l.length + 1 ≤ 8 := q1
  have q2 : h k 1 = nI (l.length + 1) := q2
  unfold mX3_takeFirst
  rw [if_neg (by rw [q2]; exact nI_nle (by omega) (by omega)), if_neg (by decide)]
  have e0 : h (k + 1) (Int32.toNatClampNeg 0) = x := q3 0 (Nat.succ_pos _)
  rw [e0]
  obtain ⟨h', g1, g2, g3, g4⟩ := xs_take_loop (k := k) (l := x :: l) (a1 := x) q1 xo_n 1 h (by show l.length + 1 < 300 + 1; omega) (Nat.le_refl _) (Nat.succ_pos _) q2 (fun j hj => by rw [if_neg (by omega)]; exact q3 j hj)
  exact ⟨h', g1, ⟨by omega, g2, fun i hi => g3 i (Nat.succ_lt_succ hi)⟩, g4⟩
theorem xs_takeNone {h : xw_M} {k : Nat} (hQ : xs_Q h k []) : mX3_takeFirst k h = some (h, -1) := by
  unfold mX3_takeFirst
  rw [if_pos (by rw [hQ.2.1]; decide)]
theorem xs_look {h : xw_M} {k : Nat} {l : List Int32} (hQ : xs_Q h k l) {i : Nat} (hi : i < l.length) : mX3_look k (nI i) h = some (h, l.getD i 0) := by
  obtain ⟨q1, q2, q3⟩ := hQ
  unfold mX3_look
  rw [if_neg (nI_pos (by omega)), if_neg (by rw [q2]; exact nI_ge hi (by omega)), if_neg (by rw [xs_e8]; exact nI_ge (by omega) (by decide)), if_pos (xs_ix (by omega) (by decide)), nI_clamp (by omega), q3 i hi]
theorem xs_lookNone {h : xw_M} {k : Nat} {l : List Int32} (hQ : xs_Q h k l) {i : Nat} (hi : l.length ≤ i) (h8 : i ≤ 8) : mX3_look k (nI i) h = some (h, -1) := by
  obtain ⟨q1, q2, q3⟩ := hQ
  unfold mX3_look
  rw [if_neg (nI_pos (by omega)), if_pos (by rw [q2]; exact nI_le hi (by omega))]
/-- where a number first stands in a list, from a place on; -1: nowhere -/
def xs_ff (x : Int32) : List Int32 → Nat → Int32
  | [], _ => -1
  | y :: l, i => if y = x then nI i else xs_ff x l (i + 1)
theorem xs_find_loop {k : Nat} {x : Int32} {h : xw_M} {l : List Int32} (hQ : xs_Q h k l) : ∀ (n i : Nat), l.length < n + i → i ≤ l.length → mX3_find_b2 k x n h (nI i) = some (h, xs_ff x (l.drop i) i) := by
  obtain ⟨q1, q2, q3⟩ := hQ
  intro n
  induction n with
  | zero => intro i h1 h2; omega
  | succ n ih =>
    intro i h1 h2
    unfold mX3_find_b2
    by_cases hi : i = l.length
    · rw [if_pos (by rw [q2, hi]; exact Int32.le_refl _), hi, List.drop_length]
      rfl
    · have hi2 : i < l.length := by omega
      rw [if_neg (by rw [q2]; exact nI_ge hi2 (by omega)), if_neg (by rw [xs_e8]; exact nI_ge (by omega) (by decide)), if_pos (xs_ix (by omega) (by decide)), nI_clamp (by omega), q3 i hi2, List.drop_eq_getElem_cons hi2, List.getD_eq_getElem?_getD, List.getElem?_eq_getElem hi2]
      unfold xs_ff
      show (if l[i] = x then _ else _) = _
      split
      · rfl
      · rw [nI_1]
        exact ih (i + 1) (by omega) (by omega)
theorem xs_find {k : Nat} {x : Int32} {h : xw_M} {l : List Int32} (hQ : xs_Q h k l) : mX3_find k x h = some (h, xs_ff x l 0) := xs_find_loop hQ xo_n 0 (by have := hQ.1; show l.length < 300 + 0; omega) (Nat.zero_le _)
theorem xs_like_loop {k0 k1 : Nat} {l : List Int32} (hk : ¬ xs_kQ k0 k1 ∧ ¬ xs_kQ k0 (k1 + 1)) : ∀ (n i : Nat) (h : xw_M), 8 < n + i → i ≤ 8 → xs_Q h k1 l → h k0 1 = nI l.length → (∀ j, j < i → j < l.length → h (k0 + 1) j = l.getD j 0) → ∃ h', mX3_becomeLike_b10 k0 k1 n h (nI i) = some (h', ()) ∧ xs_Q h' k0 l ∧ xs_off (xs_kQ k0) h h' := by
  intro n
  induction n with
  | zero => intro i h h1 h2; omega
  | succ n ih =>
    intro i h h1 h2 hQ h4 h5
    unfold mX3_becomeLike_b10
    by_cases hi : i = 8
    · rw [if_pos (by rw [hi]; decide)]
      exact ⟨h, rfl, ⟨hQ.1, h4, fun j hj => h5 j (by have := hQ.1; omega) hj⟩, xs_off.rf⟩
    · rw [if_neg (by rw [xs_e8]; exact nI_ge (by omega) (by decide))]
      obtain ⟨v, hv, hv2⟩ : ∃ v, mX3_look k1 (nI i) h = some (h, v) ∧ (i < l.length → v = l.getD i 0) := by
        by_cases hl : i < l.length
        · exact ⟨_, xs_look hQ hl, fun _ => rfl⟩
        · exact ⟨_, xs_lookNone hQ (by omega) (by omega), fun z => absurd z hl⟩
      rw [hv]
      show ∃ h', (if xo_ix (nI i) 8 = true then _ else none) = some (h', ()) ∧ _
      rw [if_pos (xs_ix (by omega) (by decide)), nI_clamp (by omega), nI_1]
      unfold xo_let
      obtain ⟨h', g1, g2, g3⟩ := ih (i + 1) (xw_st h (k0 + 1) i v) (by omega) (by omega) (hQ.off (xs_off.st (P := xs_kQ k0) (Or.inr rfl)) hk.1 hk.2) (by rw [xw_st_ne _ _ _ _ (by omega)]; exact h4) (fun j hj hj2 => by
        rw [xw_st_eq]
        show (if j = i then v else h (k0 + 1) j) = _
        split
        · rename_i e
          rw [e] at hj2 ⊢
          exact hv2 hj2
        · exact h5 j (by omega) hj2)
      exact ⟨h', g1, g2, (xs_off.st (Or.inr rfl)).tr g3⟩
theorem xs_like {k0 k1 : Nat} {l : List Int32} {h : xw_M} (hk : ¬ xs_kQ k0 k1 ∧ ¬ xs_kQ k0 (k1 + 1)) (hQ : xs_Q h k1 l) : ∃ h', mX3_becomeLike k0 k1 h = some (h', ()) ∧ xs_Q h' k0 l ∧ xs_off (xs_kQ k0) h h' := by
  unfold mX3_becomeLike xo_let
  obtain ⟨h', g1, g2, g3⟩ := xs_like_loop hk xo_n 0 (xw_st h k0 1 (h k1 1)) (by decide) (Nat.zero_le _) (hQ.off (xs_off.st (P := xs_kQ k0) (Or.inl rfl)) hk.1 hk.2) (by rw [xw_st_eq, hQ.2.1]; exact if_pos rfl) (fun j hj => absurd hj (Nat.not_lt_zero _))
  exact ⟨h', g1, g2, (xs_off.st (Or.inl rfl)).tr g3⟩
/-! the parts of a clock at B -/
theorem xs_fiberAt {B f : Nat} {h : xw_M} (hf : f < 8) : mX1_fiberAt B (nI f) h = some (h, B + 40 + 15 * f) := by
  unfold mX1_fiberAt
  rw [if_neg (nI_pos (by omega)), if_pos (by rw [xs_e8]; exact nI_lt hf (by decide)), if_pos (xs_ix hf (by decide)), nI_clamp (by omega)]
  show some (h, B + 2 + 38 + 15 * f) = _
  rw [show B + 2 + 38 = B + 40 from rfl]
theorem xs_channelAt {B c : Nat} {h : xw_M} (hc : c < 4) : mX1_channelAt B (nI c) h = some (h, B + 5 + 7 * c) := by
  unfold mX1_channelAt
  rw [if_neg (nI_pos (by omega)), if_pos (by rw [xs_e4]; exact nI_lt hc (by decide)), if_pos (xs_ix hc (by decide)), nI_clamp (by omega)]
  show some (h, B + 1 + 4 + 7 * c) = _
  rw [show B + 1 + 4 = B + 5 from rfl]
theorem xs_stepAt {k j : Nat} {h : xw_M} (hj : j < 12) : mX2_stepAt k (nI j) h = some (h, k + 2 + j) := by
  unfold mX2_stepAt
  rw [if_neg (nI_pos (by omega)), if_pos (by rw [xs_e12]; exact nI_lt hj (by decide)), if_pos (xs_ix hj (by decide)), nI_clamp (by omega)]
  show some (h, k + 1 + 1 + j) = _
  rw [show k + 1 + 1 = k + 2 from rfl]
