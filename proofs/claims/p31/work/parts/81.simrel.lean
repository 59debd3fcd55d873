/-! the law's memory shows the abstract clock -/
/-- a row of ints holds a list -/
def ys_L (y : yz_Y) (k : Nat) (l : List Int32) : Prop := y.2 k = l.length ∧ ∀ i, i < l.length → y.1 k i = l.getD i 0
/-- a fiber's slots, by the clock's tags: 1 state, 2 place, 3 sum, 4 steps behind, 5 turns had, 6 wakes at -/
def ys_j (t : Nat) : Nat := if t = 1 then 4 else if t = 2 then 2 else if t = 3 then 3 else if t = 4 then 6 else if t = 5 then 7 else 5
theorem ys_j_inj {t u : Nat} (h1 : 1 ≤ t ∧ t ≤ 6) (h2 : 1 ≤ u ∧ u ≤ 6) (h : ys_j t = ys_j u) : t = u := by
  rcases (show t = 1 ∨ t = 2 ∨ t = 3 ∨ t = 4 ∨ t = 5 ∨ t = 6 by omega) with rfl | rfl | rfl | rfl | rfl | rfl <;> rcases (show u = 1 ∨ u = 2 ∨ u = 3 ∨ u = 4 ∨ u = 5 ∨ u = 6 by omega) with rfl | rfl | rfl | rfl | rfl | rfl <;> first | rfl | (exfalso; revert h; decide)
def ys_R (y : yz_Y) (A : xs_A) (Wt : List Int32) : Prop :=
  (y.2 1 = A.nC ∧ y.2 2 = A.nC ∧ y.2 3 = A.nF) ∧ (y.1 0 0 = A.a 9 0 ∧ y.1 0 1 = A.a 10 0) ∧ (∀ c, c < A.nC → y.1 1 c = A.a 8 c) ∧
  (∀ c, c < A.nC → ys_L y (6 + c) (A.ls (1 + c))) ∧ (ys_L y 4 (A.ls 0) ∧ ys_L y 5 Wt) ∧
  (∀ f t, f < A.nF → 1 ≤ t → t ≤ 6 → y.1 (10 + f) (ys_j t) = A.a t f) ∧
  (∀ f, f < A.nF → y.2 (20 + f) = A.sc f ∧ y.2 (30 + f) = A.sc f) ∧ (∀ f j, f < A.nF → j < A.sc f → y.1 (30 + f) j = A.a (20 + f) j) ∧
  ∀ f j, f < A.nF → j < A.sc f → y.2 (40 + (12 * f + j)) = 3 ∧ y.1 (40 + (12 * f + j)) 0 = A.kd f j ∧ y.1 (40 + (12 * f + j)) 1 = A.on f j ∧ y.1 (40 + (12 * f + j)) 2 = A.tw f j
section YR
variable {y : yz_Y} {A : xs_A} {Wt : List Int32}
theorem yz_st_at {k j k' j' : Nat} {v : Int32} (h : ¬ (k' = k ∧ j' = j)) : (yz_st y k j v).1 k' j' = y.1 k' j' := xw_stj h
theorem yz_st_v {k j : Nat} {v : Int32} : (yz_st y k j v).1 k j = v := xw_stE
theorem yz_mv_ne {k n a : Nat} {g : Nat → Int32} (h : a ≠ k) : (yz_mv y k n g).1 a = y.1 a ∧ (yz_mv y k n g).2 a = y.2 a := ⟨if_neg h, if_neg h⟩
theorem yz_mv_1 {k n : Nat} {g : Nat → Int32} : (yz_mv y k n g).1 k = g := if_pos rfl
theorem yz_mv_2 {k n : Nat} {g : Nat → Int32} : (yz_mv y k n g).2 k = n := if_pos rfl
theorem ys_L.st {k k' j : Nat} {v : Int32} {l : List Int32} (h : ys_L y k l) (hk : k ≠ k') : ys_L (yz_st y k' j v) k l := ⟨h.1, fun i hi => (yz_st_at (fun z => hk z.1)).trans (h.2 i hi)⟩
theorem ys_L.mv {k k' n : Nat} {g : Nat → Int32} {l : List Int32} (h : ys_L y k l) (hk : k ≠ k') : ys_L (yz_mv y k' n g) k l := ⟨(yz_mv_ne hk).2.trans h.1, fun i hi => by rw [(yz_mv_ne hk).1]; exact h.2 i hi⟩
theorem ys_L.app {k : Nat} {v : Int32} {l : List Int32} (h : ys_L y k l) : ys_L (yz_app y k v) k (l ++ [v]) := by
  unfold yz_app
  refine ⟨by rw [yz_mv_2, List.length_append, h.1]; rfl, fun i hi => ?_⟩
  have hi : i < l.length + 1 := by rw [List.length_append] at hi; exact hi
  rw [yz_mv_1, h.1, xs_gd]
  unfold upd
  by_cases e : i = l.length
  · rw [if_pos e, if_neg (by omega), if_pos e]
  · rw [if_neg e, if_pos (by omega)]
    exact h.2 i (by omega)
theorem ys_L.rem {k b : Nat} {l : List Int32} (h : ys_L y k l) (hb : b < l.length) (hl : l.length < 2 ^ 31) : ys_L (yz_rem y k (nI b)) k (l.eraseIdx b) := by
  unfold yz_rem
  have hlen : (l.eraseIdx b).length = l.length - 1 := List.length_eraseIdx_of_lt hb
  refine ⟨by rw [yz_mv_2, hlen, h.1], fun i hi => ?_⟩
  rw [hlen] at hi
  rw [yz_mv_1, nI_clamp (by omega)]
  show (if i < b then y.1 k i else y.1 k (i + 1)) = _
  rw [List.getD_eq_getElem?_getD, List.getElem?_eraseIdx]
  by_cases e : i < b
  · rw [if_pos e, if_pos e, h.2 i (by omega), List.getD_eq_getElem?_getD]
  · rw [if_neg e, if_neg e, h.2 (i + 1) (by omega), List.getD_eq_getElem?_getD]
/-- a fiber's slot is set -/
theorem ys_R.setF (R : ys_R y A Wt) (hs : A.sz) {t f : Nat} (ht : 1 ≤ t ∧ t ≤ 6) (hf : f < A.nF) (v : Int32) : ys_R (yz_st y (10 + f) (ys_j t) v) (A.set t f v) Wt := by
  obtain ⟨s1, s2, s3⟩ := hs
  obtain ⟨r1, r2, r3, r4, r5, r6, r7, r8, r9⟩ := R
  have sa : ∀ u i, ¬ (u = t ∧ i = f) → (A.set t f v).a u i = A.a u i := fun u i h => if_neg h
  have ne : ∀ k j, ¬ (10 ≤ k ∧ k < 18) → (yz_st y (10 + f) (ys_j t) v).1 k j = y.1 k j := fun k j h => yz_st_at (fun z => by omega)
  refine ⟨r1, ⟨?_, ?_⟩, fun c hc => ?_, fun c hc => (r4 c hc).st (by have hc : c < A.nC := hc; omega), ⟨r5.1.st (by omega), r5.2.st (by omega)⟩, fun g u hg h1 h2 => ?_, r7, fun g j hg hj => ?_, fun g j hg hj => ?_⟩
  · rw [ne _ _ (by omega), sa _ _ (by omega)]; exact r2.1
  · rw [ne _ _ (by omega), sa _ _ (by omega)]; exact r2.2
  · rw [ne _ _ (by omega), sa _ _ (by omega)]; exact r3 c hc
  · by_cases e : u = t ∧ g = f
    · obtain ⟨rfl, rfl⟩ := e
      rw [yz_st_v]
      exact (if_pos ⟨rfl, rfl⟩).symm
    · rw [sa u g e, yz_st_at (fun z => e ⟨ys_j_inj ⟨h1, h2⟩ ht z.2, by omega⟩)]
      exact r6 g u hg h1 h2
  · have hg : g < A.nF := hg
    rw [ne _ _ (by omega), sa _ _ (by omega)]; exact r8 g j hg hj
  · have hg : g < A.nF := hg
    rw [ne _ _ (by omega), ne _ _ (by omega), ne _ _ (by omega)]
    exact r9 g j hg hj
/-- the count of a going back is set -/
theorem ys_R.setB (R : ys_R y A Wt) (hs : A.sz) {f j : Nat} (hf : f < A.nF) (v : Int32) : ys_R (yz_st y (30 + f) j v) (A.set (20 + f) j v) Wt := by
  obtain ⟨s1, s2, s3⟩ := hs
  obtain ⟨r1, r2, r3, r4, r5, r6, r7, r8, r9⟩ := R
  have sa : ∀ u i, ¬ (u = 20 + f ∧ i = j) → (A.set (20 + f) j v).a u i = A.a u i := fun u i h => if_neg h
  have ne : ∀ k i, ¬ (30 ≤ k ∧ k < 38) → (yz_st y (30 + f) j v).1 k i = y.1 k i := fun k i h => yz_st_at (fun z => by omega)
  refine ⟨r1, ⟨?_, ?_⟩, fun c hc => ?_, fun c hc => (r4 c hc).st (by have hc : c < A.nC := hc; omega), ⟨r5.1.st (by omega), r5.2.st (by omega)⟩, fun g u hg h1 h2 => ?_, r7, fun g i hg hi => ?_, fun g i hg hi => ?_⟩
  · rw [ne _ _ (by omega), sa _ _ (by omega)]; exact r2.1
  · rw [ne _ _ (by omega), sa _ _ (by omega)]; exact r2.2
  · rw [ne _ _ (by omega), sa _ _ (by omega)]; exact r3 c hc
  · have hg : g < A.nF := hg
    rw [ne _ _ (by omega), sa _ _ (by omega)]; exact r6 g u hg h1 h2
  · by_cases e : g = f ∧ i = j
    · obtain ⟨rfl, rfl⟩ := e
      rw [yz_st_v]
      exact (if_pos ⟨rfl, rfl⟩).symm
    · rw [sa _ _ (by omega), yz_st_at (fun z => e ⟨by omega, z.2⟩)]
      exact r8 g i hg hi
  · have hg : g < A.nF := hg
    rw [ne _ _ (by omega), ne _ _ (by omega), ne _ _ (by omega)]
    exact r9 g i hg hi
/-- the time, the idle turns -/
theorem ys_R.setT (R : ys_R y A Wt) (hs : A.sz) {t : Nat} (ht : t = 0 ∨ t = 1) (v : Int32) : ys_R (yz_st y 0 t v) (A.set (9 + t) 0 v) Wt := by
  obtain ⟨s1, s2, s3⟩ := hs
  obtain ⟨r1, r2, r3, r4, r5, r6, r7, r8, r9⟩ := R
  have sa : ∀ u i, u ≠ 9 + t → (A.set (9 + t) 0 v).a u i = A.a u i := fun u i h => if_neg (fun z => h z.1)
  have sv : (A.set (9 + t) 0 v).a (9 + t) 0 = v := if_pos ⟨rfl, rfl⟩
  have ne : ∀ k i, k ≠ 0 → (yz_st y 0 t v).1 k i = y.1 k i := fun k i h => yz_st_at (fun z => h z.1)
  refine ⟨r1, ?_, fun c hc => ?_, fun c hc => (r4 c hc).st (by omega), ⟨r5.1.st (by omega), r5.2.st (by omega)⟩, fun g u hg h1 h2 => ?_, r7, fun g i hg hi => ?_, fun g i hg hi => ?_⟩
  · rcases ht with rfl | rfl
    · exact ⟨yz_st_v.trans sv.symm, (yz_st_at (by omega)).trans (r2.2.trans (sa 10 0 (by omega)).symm)⟩
    · exact ⟨(yz_st_at (by omega)).trans (r2.1.trans (sa 9 0 (by omega)).symm), yz_st_v.trans sv.symm⟩
  · rw [ne _ _ (by omega), sa _ _ (by omega)]; exact r3 c hc
  · rw [ne _ _ (by omega), sa _ _ (by omega)]; exact r6 g u hg h1 h2
  · rw [ne _ _ (by omega), sa _ _ (by omega)]; exact r8 g i hg hi
  · rw [ne _ _ (by omega), ne _ _ (by omega), ne _ _ (by omega)]
    exact r9 g i hg hi
/-- the line, the row of those who wait, a channel's drops -/
theorem ys_R.line (R : ys_R y A Wt) (hs : A.sz) {n : Nat} {g : Nat → Int32} {l : List Int32} (h : ys_L (yz_mv y 4 n g) 4 l) : ys_R (yz_mv y 4 n g) (A.setL 0 l) Wt := by
  obtain ⟨s1, s2, s3⟩ := hs
  obtain ⟨r1, r2, r3, r4, r5, r6, r7, r8, r9⟩ := R
  have m1 : ∀ k, k ≠ 4 → (yz_mv y 4 n g).1 k = y.1 k := fun k h => (yz_mv_ne h).1
  have m2 : ∀ k, k ≠ 4 → (yz_mv y 4 n g).2 k = y.2 k := fun k h => (yz_mv_ne h).2
  refine ⟨⟨(m2 1 (by omega)).trans r1.1, (m2 2 (by omega)).trans r1.2.1, (m2 3 (by omega)).trans r1.2.2⟩, by rw [m1 0 (by omega)]; exact r2, fun c hc => by rw [m1 1 (by omega)]; exact r3 c hc, fun c hc => ?_, ⟨?_, r5.2.mv (by omega)⟩, fun f t hf h1 h2 => by rw [m1 _ (by omega)]; exact r6 f t hf h1 h2, fun f hf => by rw [m2 _ (by omega), m2 _ (by omega)]; exact r7 f hf, fun f j hf hj => by rw [m1 _ (by omega)]; exact r8 f j hf hj, fun f j hf hj => by rw [m1 _ (by omega), m2 _ (by omega)]; exact r9 f j hf hj⟩
  · have e : (A.setL 0 l).ls (1 + c) = A.ls (1 + c) := if_neg (by omega)
    rw [e]
    exact (r4 c hc).mv (by omega)
  · rw [xs_setL_eq]
    exact h
theorem ys_R.wait (R : ys_R y A Wt) (hs : A.sz) {n : Nat} {g : Nat → Int32} {l : List Int32} (h : ys_L (yz_mv y 5 n g) 5 l) : ys_R (yz_mv y 5 n g) A l := by
  obtain ⟨s1, s2, s3⟩ := hs
  obtain ⟨r1, r2, r3, r4, r5, r6, r7, r8, r9⟩ := R
  have m1 : ∀ k, k ≠ 5 → (yz_mv y 5 n g).1 k = y.1 k := fun k h => (yz_mv_ne h).1
  have m2 : ∀ k, k ≠ 5 → (yz_mv y 5 n g).2 k = y.2 k := fun k h => (yz_mv_ne h).2
  exact ⟨⟨(m2 1 (by omega)).trans r1.1, (m2 2 (by omega)).trans r1.2.1, (m2 3 (by omega)).trans r1.2.2⟩, by rw [m1 0 (by omega)]; exact r2, fun c hc => by rw [m1 1 (by omega)]; exact r3 c hc, fun c hc => (r4 c hc).mv (by omega), ⟨r5.1.mv (by omega), h⟩, fun f t hf h1 h2 => by rw [m1 _ (by omega)]; exact r6 f t hf h1 h2, fun f hf => by rw [m2 _ (by omega), m2 _ (by omega)]; exact r7 f hf, fun f j hf hj => by rw [m1 _ (by omega)]; exact r8 f j hf hj, fun f j hf hj => by rw [m1 _ (by omega), m2 _ (by omega)]; exact r9 f j hf hj⟩
theorem ys_R.drop (R : ys_R y A Wt) (hs : A.sz) {c n : Nat} {g : Nat → Int32} {l : List Int32} (hc : c < A.nC) (h : ys_L (yz_mv y (6 + c) n g) (6 + c) l) : ys_R (yz_mv y (6 + c) n g) (A.setL (1 + c) l) Wt := by
  obtain ⟨s1, s2, s3⟩ := hs
  obtain ⟨r1, r2, r3, r4, r5, r6, r7, r8, r9⟩ := R
  have m1 : ∀ k, k ≠ 6 + c → (yz_mv y (6 + c) n g).1 k = y.1 k := fun k h => (yz_mv_ne h).1
  have m2 : ∀ k, k ≠ 6 + c → (yz_mv y (6 + c) n g).2 k = y.2 k := fun k h => (yz_mv_ne h).2
  refine ⟨⟨(m2 1 (by omega)).trans r1.1, (m2 2 (by omega)).trans r1.2.1, (m2 3 (by omega)).trans r1.2.2⟩, by rw [m1 0 (by omega)]; exact r2, fun c hc => by rw [m1 1 (by omega)]; exact r3 c hc, fun d hd => ?_, ⟨?_, r5.2.mv (by omega)⟩, fun f t hf h1 h2 => by rw [m1 _ (by omega)]; exact r6 f t hf h1 h2, fun f hf => by rw [m2 _ (by omega), m2 _ (by omega)]; exact r7 f hf, fun f j hf hj => by rw [m1 _ (by omega)]; exact r8 f j hf hj, fun f j hf hj => by rw [m1 _ (by omega), m2 _ (by omega)]; exact r9 f j hf hj⟩
  · by_cases e : d = c
    · subst e
      have e2 : (A.setL (1 + d) l).ls (1 + d) = l := if_pos rfl
      rw [e2]
      exact h
    · have e2 : (A.setL (1 + c) l).ls (1 + d) = A.ls (1 + d) := if_neg (by omega)
      rw [e2]
      exact (r4 d hd).mv (by omega)
  · have e : (A.setL (1 + c) l).ls 0 = A.ls 0 := if_neg (by omega)
    rw [e]
    exact r5.1.mv (by omega)
/-! what there is -/
theorem ys_R.isF (R : ys_R y A Wt) (hs : A.sz) {f : Nat} (hf : f < A.nF) : yz_is y (10 + f) 1 = true := by
  have h3 := R.1.2.2
  have h8 := hs.2.1
  unfold yz_is yz_ex
  rw [if_neg (by omega), if_neg (by omega), if_pos (by omega), h3, Bool.and_eq_true, decide_eq_true_eq, decide_eq_true_eq]
  exact ⟨by omega, yz_kdF (by omega)⟩
theorem ys_R.isT (R : ys_R y A Wt) (hs : A.sz) {f : Nat} (hf : f < A.nF) : yz_is y (20 + f) 5 = true := by
  have h3 := R.1.2.2
  have h8 := hs.2.1
  unfold yz_is yz_ex
  rw [if_neg (by omega), if_neg (by omega), if_neg (by omega), if_pos (by omega), h3, Bool.and_eq_true, decide_eq_true_eq, decide_eq_true_eq]
  exact ⟨by omega, yz_kdT (by omega)⟩
theorem ys_R.isB (R : ys_R y A Wt) (hs : A.sz) {f : Nat} (hf : f < A.nF) : yz_is y (30 + f) 2 = true := by
  have h3 := R.1.2.2
  have h8 := hs.2.1
  unfold yz_is yz_ex
  rw [if_neg (by omega), if_neg (by omega), if_neg (by omega), if_neg (by omega), if_pos (by omega), h3, Bool.and_eq_true, decide_eq_true_eq, decide_eq_true_eq]
  exact ⟨by omega, yz_kdI (by omega)⟩
theorem ys_R.isP (R : ys_R y A Wt) (hs : A.sz) {f j : Nat} (hf : f < A.nF) (hj : j < A.sc f) : yz_is y (40 + (12 * f + j)) 2 = true := by
  have h3 := R.1.2.2
  have h8 := hs.2.1
  have h12 := hs.2.2 f hf
  have h20 := (R.2.2.2.2.2.2.1 f hf).1
  unfold yz_is yz_ex
  rw [if_neg (by omega), if_neg (by omega), if_neg (by omega), if_neg (by omega), if_neg (by omega), if_pos (by omega), show (40 + (12 * f + j) - 40) / 12 = f by omega, show (40 + (12 * f + j) - 40) % 12 = j by omega, h3, h20, Bool.and_eq_true, Bool.and_eq_true, decide_eq_true_eq, decide_eq_true_eq, decide_eq_true_eq]
  exact ⟨⟨hf, hj⟩, yz_kdI (by omega)⟩
theorem ys_R.isG (R : ys_R y A Wt) (hs : A.sz) {c : Nat} (hc : c < A.nC) : yz_is y (6 + c) 2 = true := by
  have h2 := R.1.2.1
  have h4 := hs.1
  unfold yz_is yz_ex
  rw [if_neg (by omega), if_pos (by omega), h2, Bool.and_eq_true, decide_eq_true_eq, decide_eq_true_eq]
  exact ⟨by omega, yz_kdI (by omega)⟩
theorem ys_is4 : yz_is y 4 2 = true ∧ yz_is y 5 2 = true ∧ yz_is y 1 2 = true := ⟨by unfold yz_is yz_ex; rw [if_pos (by omega)]; rfl, by unfold yz_is yz_ex; rw [if_pos (by omega)]; rfl, by unfold yz_is yz_ex; rw [if_pos (by omega)]; rfl⟩
end YR
