/-! the class's methods do the moves -/
section CM
variable {B : Nat} {h : xw_M} {A : xs_A} {r : Nat}
theorem xs_W.room (w : xs_W A r) (hf : r < A.nF) (h0 : A.a 1 r ≠ 1 ∧ A.a 1 r ≠ 2) {n : Nat} (hn : A.fL n) : (A.ls n).length < 8 := by
  refine (w.2.2.2.2.2 n hn).1.lt w.1 hf (fun z => ?_)
  rcases xs_at_st (((w.2.2.2.2.2 n hn).2 r hf).mp z) with ⟨_, _, z3⟩ | ⟨_, z2⟩
  · exact z3 rfl
  · exact z2.elim h0.1 h0.2
theorem xs_W.fibs (w : xs_W A r) {n : Nat} (hn : A.fL n) : ∀ x ∈ A.ls n, ∃ f, f < A.nF ∧ x = nI f := (w.2.2.2.2.2 n hn).1.2
theorem xs_W.full (w : xs_W A r) {c : Nat} (hc : c < A.nC) : (A.a 8 c ≤ nI (A.ls (1 + c)).length ↔ ¬ (A.ls (1 + c)).length < (A.a 8 c).toNatClampNeg) ∧ (A.ls (1 + c)).length ≤ 8 ∧ (A.a 8 c).toNatClampNeg ≤ 8 := by
  obtain ⟨p, p1, p2, p3, p4⟩ := w.2.2.2.2.1 c hc
  rw [p3, nI_clamp (by omega), nI_leI (by omega) (by omega)]
  exact ⟨by omega, by omega, p2⟩
theorem xs_hasRoom (C : xs_CR B h A) {c : Nat} (hc : c < A.nC) (hc4 : c < 4) : mX0_hasRoom (B + 5 + 7 * c) h = some (h, if A.a 8 c ≤ nI (A.ls (1 + c)).length then 0 else 1) := by
  unfold mX0_hasRoom
  rw [xs_places C hc, xs_q1 hc4, (xs_len C (n := 1 + c) (Or.inr (Or.inl ⟨by omega, by omega⟩))).1]
  split <;> rfl
theorem xs_cSend (C : xs_CR B h A) (w : xs_W A r) (hf : r < A.nF) (h0 : A.a 1 r = 0) {c : Nat} (hc : c < A.nC) {v : Int32} : xs_to B h (mX1_send B (B + 40 + 15 * r) (nI c) v h) () (A.send r c v) := by
  have hc4 := Nat.lt_of_lt_of_le hc w.1.1
  have h01 : A.a 1 r ≠ 1 ∧ A.a 1 r ≠ 2 := by rw [h0]; decide
  unfold mX1_send xs_A.send
  rw [xs_channelAt hc4, Option.bind_some]
  dsimp only
  rw [xs_hasRoom C hc hc4, Option.bind_some]
  dsimp only
  by_cases hn : A.a 8 c ≤ nI (A.ls (1 + c)).length
  · rw [if_pos hn, if_pos hn, if_pos rfl, xs_q5 hc4]
    exact xs_wait C w.1 hf (xs_nL w.1 hc).2.1 (w.room hf h01 (xs_fL hc).1) 1
  · rw [if_neg hn, if_neg hn, if_neg (by decide), xs_q1 hc4, xs_q9 hc4]
    have hfu := w.full hc
    obtain ⟨h1, e1, C1, o1⟩ := C.add w.1 (xs_nL w.1 hc).1 (by have h9 : (A.ls (1 + c)).length < (A.a 8 c).toNatClampNeg := Classical.byContradiction fun z => hn (hfu.1.mpr z); omega) v
    have hA9 : (A.setL (1 + c) (A.ls (1 + c) ++ [v])).ls (9 + c) = A.ls (9 + c) := xs_setL_ne (by omega)
    have hA0 : (A.setL (1 + c) (A.ls (1 + c) ++ [v])).ls 0 = A.ls 0 := xs_setL_ne (by omega)
    obtain ⟨h2, e2, C2, o2⟩ := xs_wake C1 w.1 (xs_nL (A := A) w.1 hc).2.2 (by omega) (by rw [hA9]; exact w.fibs (xs_fL hc).2) (fun _ => by rw [hA0]; exact w.room hf h01 (Or.inl rfl))
    have ss := xs_ss_put (A := A) (c := c) (v := v)
    have C2 : xs_CR B h2 (A.put c v) := C2
    have z2 : (A.put c v).sz := by unfold xs_A.sz; rw [ss.1, ss.2.1, ss.2.2.1]; exact w.1
    obtain ⟨h3, e3, C3, o3⟩ := xs_move C2 z2 (f := r) (by rw [ss.2.1]; exact hf)
    rw [e1, Option.bind_some]
    dsimp only
    rw [e2, Option.bind_some]
    dsimp only
    rw [e3, Option.bind_some]
    exact ⟨h3, rfl, C3, (o1.tr o2).tr o3⟩
theorem xs_cTake (C : xs_CR B h A) (w : xs_W A r) (hf : r < A.nF) (h0 : A.a 1 r = 0) {c : Nat} (hc : c < A.nC) : xs_to B h (mX1_take B (B + 40 + 15 * r) (nI c) h) () (A.take r c) := by
  have hc4 := Nat.lt_of_lt_of_le hc w.1.1
  have h01 : A.a 1 r ≠ 1 ∧ A.a 1 r ≠ 2 := by rw [h0]; decide
  unfold mX1_take xs_A.take
  rw [xs_channelAt hc4, Option.bind_some]
  dsimp only
  rw [xs_q1 hc4]
  have eg := C.getF (t := 3) (by omega) hf
  obtain ⟨hq, h8⟩ := xs_len C (xs_nL (A := A) w.1 hc).1
  cases he : A.ls (1 + c) with
  | nil =>
    rw [he] at hq
    rw [if_pos (by rw [hq]; decide), xs_q9 hc4]
    exact xs_wait C w.1 hf (xs_nL w.1 hc).2.2 (w.room hf h01 (xs_fL hc).2) 2
  | cons v l =>
    rw [he] at h8 hq
    rw [if_neg (by rw [hq]; exact nI_nle (n := (v :: l).length) (Nat.succ_pos _) (by omega)), xs_q5 hc4, eg]
    obtain ⟨h1, e1, C1, o1⟩ := C.pop w.1 (xs_nL w.1 hc).1 he
    obtain ⟨C2, o2⟩ := C1.setF w.1 (t := 3) (f := r) (by omega) hf (A.a 3 r + v)
    have hA5 : ((A.setL (1 + c) l).set 3 r (A.a 3 r + v)).ls (5 + c) = A.ls (5 + c) := xs_setL_ne (by omega)
    have hA0 : ((A.setL (1 + c) l).set 3 r (A.a 3 r + v)).ls 0 = A.ls 0 := xs_setL_ne (by omega)
    obtain ⟨h3, e3, C3, o3⟩ := xs_wake C2 w.1 (xs_nL (A := A) w.1 hc).2.1 (by omega) (by rw [hA5]; exact w.fibs (xs_fL hc).1) (fun _ => by rw [hA0]; exact w.room hf h01 (Or.inl rfl))
    have ss := xs_ss_wake (A := (A.setL (1 + c) l).set 3 r (A.a 3 r + v)) (n := 5 + c)
    have z3 : (((A.setL (1 + c) l).set 3 r (A.a 3 r + v)).wake (5 + c)).sz := by unfold xs_A.sz; rw [ss.1, ss.2.1, ss.2.2.1]; exact w.1
    obtain ⟨h4, e4, C4, o4⟩ := xs_move C3 z3 (f := r) (by rw [ss.2.1]; exact hf)
    rw [e1, Option.bind_some]
    unfold xo_let
    dsimp only
    rw [e3, Option.bind_some]
    dsimp only
    rw [e4, Option.bind_some]
    exact ⟨h4, rfl, C4, ((o1.tr o2).tr o3).tr o4⟩
theorem xs_cJoin (C : xs_CR B h A) (w : xs_W A r) (hf : r < A.nF) {g : Nat} (hg : g < A.nF) : xs_to B h (mX1_waitFor B (B + 40 + 15 * r) (nI g) h) () (A.join r g) := by
  unfold mX1_waitFor xs_A.join
  rw [xs_fiberAt (Nat.lt_of_lt_of_le hg w.1.2.1), Option.bind_some]
  dsimp only
  have eg := C.getF (t := 1) (by omega) hg
  by_cases e5 : A.a 1 g = 5
  · rw [if_pos (eg.trans e5), if_pos e5]
    obtain ⟨h1, e1, C1, o1⟩ := xs_move C w.1 hf
    rw [e1, Option.bind_some]
    exact ⟨h1, rfl, C1, o1⟩
  · rw [if_neg (fun z => e5 (eg.symm.trans z)), if_neg e5]
    obtain ⟨C1, o1⟩ := C.setF w.1 (t := 1) (by omega) hf 4
    exact ⟨_, rfl, C1, o1⟩
theorem xs_CR.setB (C : xs_CR B h A) (hs : A.sz) {f j : Nat} (hf : f < A.nF) (hj : j < A.sc f) (v : Int32) : h (B + 42 + 15 * f + j) 3 = A.a (20 + f) j ∧ xs_CR B (xw_st h (B + 42 + 15 * f + j) 3 v) (A.set (20 + f) j v) ∧ xs_off (xs_rg B) h (xw_st h (B + 42 + 15 * f + j) 3 v) := by
  have hd : A.dom (20 + f) j := by
    have h8 := hs.2.1
    have h12 := hs.2.2 f hf
    exact Or.inr (Or.inr (Or.inr (Or.inr ⟨by omega, by omega, by omega⟩)))
  have e1 : xs_sk B (20 + f) j = B + 42 + 15 * f + j := by unfold xs_sk; rw [if_neg (by omega), if_neg (by omega), if_neg (by omega), show 20 + f - 20 = f by omega]
  have e2 : xs_sj (20 + f) = 3 := by unfold xs_sj; rw [if_neg (by omega), if_neg (by omega), if_neg (by omega), if_neg (by omega)]
  have h1 := C.sca _ _ hd
  have h2 := C.set hs hd v
  have h3 := xs_sk_rg hs hd (B := B)
  rw [e1, e2] at h1 h2
  rw [e1] at h3
  exact ⟨h1, h2, xs_off.st h3⟩
theorem xs_cBack (C : xs_CR B h A) (w : xs_W A r) (hf : r < A.nF) {j : Nat} (hj : j < A.sc r) : xs_to B h (mX2_goBack (B + 40 + 15 * r) (B + 42 + 15 * r + j) h) () (A.back r j) := by
  unfold mX2_goBack xs_A.back
  have h12 := w.1.2.2 r hf
  obtain ⟨s0, s1, s2⟩ := C.stp r j hf hj
  obtain ⟨b0, -, -⟩ := C.setB w.1 hf hj 0
  rw [s2, b0]
  split
  · obtain ⟨-, C1, o1⟩ := C.setB w.1 hf hj 0
    unfold xo_let
    dsimp only
    obtain ⟨h2, e2, C2, o2⟩ := xs_move C1 w.1 (f := r) hf
    rw [e2, Option.bind_some]
    exact ⟨h2, rfl, C2, o1.tr o2⟩
  · obtain ⟨-, C1, o1⟩ := C.setB w.1 hf hj (A.a (20 + r) j + 1)
    unfold xo_let
    dsimp only
    have e1 := (C1.stp r j hf hj).2.1
    rw [e1]
    obtain ⟨C2, o2⟩ := C1.setF w.1 (t := 2) (f := r) (by omega) hf (A.on r j)
    have e2 := C2.getF (t := 4) (f := r) (by omega) hf
    have e3 : ((A.set (20 + r) j (A.a (20 + r) j + 1)).set 2 r (A.on r j)).a 4 r = A.a 4 r := (xs_set_ne (fun z => by omega)).trans (xs_set_ne (fun z => by omega))
    have e2 := e2.trans e3
    rw [show ((A.set (20 + r) j (A.a (20 + r) j + 1)).on r j) = A.on r j from rfl, e2]
    obtain ⟨C3, o3⟩ := C2.setF w.1 (t := 4) (f := r) (by omega) hf (A.a 4 r + 1)
    exact ⟨_, rfl, C3, (o1.tr o2).tr o3⟩
end CM
