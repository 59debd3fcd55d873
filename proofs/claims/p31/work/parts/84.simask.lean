/-! the law's clock: turns, what it is asked -/
section YA
variable {y y' : yz_Y} {A A' P : xs_A} {Wt : List Int32} {r : Nat}
theorem xd_id_turn (w : xs_W A 99) : A.turn.a 10 0 = A.a 10 0 + xd_id A := by
  have h8 := w.1.2.1
  unfold xd_id
  cases he : (xs_A.rise A.nF 0 A).ls 0 with
  | nil => rw [if_pos rfl]; exact (xd_turn0 he).1
  | cons x l =>
    have w1 := xs_W.rise A.nF 0 A w (by omega)
    obtain ⟨f, hf, hx, h0, _⟩ := w1.1.work he
    have hf8 : f < A.nF := by rw [← w1.2.2.1]; exact hf
    rw [if_neg (List.cons_ne_nil x l), (xd_turn1 he (f := f) (by rw [hx, nI_clamp (by omega)]) (by omega)).1, Int32.add_zero]
theorem xd_alg {s d x a : Int32} : s + d + (x - (a + d)) = s + (x - a) := by
  rw [Int32.sub_eq_add_neg, Int32.neg_add, Int32.sub_eq_add_neg x a, Int32.add_assoc, ← Int32.add_assoc d, Int32.add_comm d x, Int32.add_assoc x, Int32.sub_eq_add_neg, ← Int32.add_assoc d, Int32.add_comm d (-a), Int32.add_assoc (-a), Int32.add_right_neg, Int32.add_zero]
theorem ys_turns : ∀ (m i n : Nat) (y : yz_Y) (A : xs_A) (Wt : List Int32) (s : Int32), ys_R y A Wt → ys_V A Wt → xd_I A → i + m ≤ 60 → m < n → ys_to y (mX7_pass__b4 (nI (i + m)) n y s (nI i)) (s + ((A.turns m).a 10 0 - A.a 10 0)) (A.turns m) := by
  intro m
  induction m with
  | zero =>
    intro i n y A Wt s R V I hi hn
    cases n with
    | zero => omega
    | succ n =>
      rw [Nat.add_zero, mX7_pass__b4, if_pos (Int32.le_refl _)]
      refine ⟨y, Wt, ?_, R, V, ys_o.rf⟩
      show _ = some (y, s + (A.a 10 0 - A.a 10 0))
      rw [Int32.sub_self, Int32.add_zero]
  | succ m ih =>
    intro i n y A Wt s R V I hi hn
    cases n with
    | zero => omega
    | succ n =>
      obtain ⟨y1, Wt1, q1, q2, q3, q4⟩ := ys_pass R V I.1 I.2.2.1
      obtain ⟨y2, Wt2, t1, t2, t3, t4⟩ := ih (i + 1) n y1 A.turn Wt1 (s + xd_id A) q2 q3 I.turn (by omega) (by omega)
      refine ⟨y2, Wt2, ?_, t2, t3, q4.tr t4⟩
      rw [mX7_pass__b4, if_neg (nI_ge (by omega) (by omega)), q1, Option.bind_some]
      have e : ∀ d, mX7_pass__b22 (mX7_pass__b4 (nI (i + (m + 1))) n) (nI (i + (m + 1))) (nI i) y1 d s = mX7_pass__b4 (nI (i + (m + 1))) n y1 (s + d) (nI (i + 1)) := fun d => by unfold mX7_pass__b22; rw [nI_1]
      have e2 : (if xd_id A = 0 then mX7_pass__b22 (mX7_pass__b4 (nI (i + (m + 1))) n) (nI (i + (m + 1))) (nI i) y1 0 s else mX7_pass__b22 (mX7_pass__b4 (nI (i + (m + 1))) n) (nI (i + (m + 1))) (nI i) y1 1 s) = mX7_pass__b4 (nI (i + (m + 1))) n y1 (s + xd_id A) (nI (i + 1)) := by
        rw [e, e]
        have h : xd_id A = 0 ∨ xd_id A = 1 := by unfold xd_id; split <;> simp
        rcases h with h | h
        · rw [h, if_pos rfl]
        · rw [h, if_neg (by decide)]
      show (if xd_id A = 0 then _ else _) = _
      rw [e2]
      show mX7_pass__b4 (nI (i + (m + 1))) n y1 (s + xd_id A) (nI (i + 1)) = some (y2, s + ((A.turn.turns m).a 10 0 - A.a 10 0))
      rw [show i + (m + 1) = i + 1 + m by omega, t1, xd_id_turn I.1, xd_alg]
theorem ys_run (R : ys_R y A Wt) (V : ys_V A Wt) (I : xd_I A) {t : Nat} (ht : t ≤ 60) : ys_to y (mX7_pass_ (nI t) y) ((A.turns t).a 10 0 - A.a 10 0) (A.turns t) := by
  have h := ys_turns t 0 61 y A Wt 0 R V I (by omega) (by omega)
  rw [Nat.zero_add, Int32.zero_add] at h
  exact h
/-! counts -/
theorem ys_doneL (R : ys_R y A Wt) (hs : A.sz) : ∀ (m i n d : Nat), i + m = A.nF → m < n → mX7_done_b13 (nI A.nF) n y (nI d) (nI i) = some (y, nI (d + xs_no A 5 m i)) := by
  have h8 := hs.2.1
  intro m
  induction m with
  | zero =>
    intro i n d hi hn
    cases n with
    | zero => omega
    | succ n => rw [mX7_done_b13, if_pos (nI_le (by omega) (by omega))]; rfl
  | succ m ih =>
    intro i n d hi hn
    cases n with
    | zero => omega
    | succ n =>
      have hg : i < A.nF := by omega
      rw [mX7_done_b13, if_neg (nI_ge hg (by omega)), if_pos (R.ixF hs hg), nI_clamp (by omega), if_pos (R.isF hs hg), (R.gF hg).1]
      unfold mX7_done_b40 xs_no
      by_cases h : A.a 1 i = 5
      · rw [if_pos h, if_pos h, nI_1, nI_1, ih (i + 1) n (d + 1) (by omega) (by omega), Nat.add_assoc]
      · rw [if_neg h, if_neg h, Int32.add_zero, nI_1, ih (i + 1) n d (by omega) (by omega), Nat.zero_add]
theorem ys_done (R : ys_R y A Wt) (hs : A.sz) : mX7_done y = some (y, nI (xs_no A 5 A.nF 0)) := by
  have h := ys_doneL R hs A.nF 0 xo_n 0 (by omega) (by have := hs.2.1; show A.nF < 300; omega)
  rw [Nat.zero_add] at h
  unfold mX7_done
  rw [R.1.2.2]
  exact h
theorem ys_stuckL (R : ys_R y A Wt) (hs : A.sz) : ∀ (m i n : Nat) (b : Int32), i + m = A.nF → m < n → (∀ g, g < i → A.a 1 g ≠ 0 ∧ A.a 1 g ≠ 3) → ((b = 1 ∧ ∃ g, g < i ∧ A.a 1 g ≠ 5) ∨ (b = 0 ∧ ∀ g, g < i → A.a 1 g = 5)) → mX7_isStuck_b13 (nI A.nF) n y b (nI i) = some (y, xs_stv A) := by
  have h8 := hs.2.1
  intro m
  induction m with
  | zero =>
    intro i n b hi hn h1 h2
    cases n with
    | zero => omega
    | succ n =>
      have e : i = A.nF := by omega
      rw [mX7_isStuck_b13, if_pos (nI_le (by omega) (by omega)), if_pos (by rcases h2 with ⟨h, _⟩ | ⟨h, _⟩ <;> rw [h] <;> decide)]
      rw [xs_stv_eq (A := A) (x := b)]
      rcases h2 with ⟨rfl, g, hg, h5⟩ | ⟨rfl, h5⟩
      · exact Or.inl ⟨rfl, fun f hf => h1 f (by omega), fun z => h5 (z g (by omega))⟩
      · exact Or.inr ⟨rfl, fun z => z.2 (fun f hf => h5 f (by omega))⟩
  | succ m ih =>
    intro i n b hi hn h1 h2
    cases n with
    | zero => omega
    | succ n =>
      have hg : i < A.nF := by omega
      have no : ¬ (A.a 1 i ≠ 0 ∧ A.a 1 i ≠ 3) → (0 : Int32) = xs_stv A := fun h => xs_stv_eq (Or.inr ⟨rfl, fun z => h (z.1 i hg)⟩)
      rw [mX7_isStuck_b13, if_neg (nI_ge hg (by omega)), if_pos (R.ixF hs hg), nI_clamp (by omega), if_pos (R.isF hs hg), (R.gF hg).1]
      by_cases e0 : A.a 1 i = 0
      · rw [if_pos e0, no (fun z => z.1 e0)]
      rw [if_neg e0, if_pos (R.isF hs hg)]
      by_cases e3 : A.a 1 i = 3
      · rw [if_pos e3, no (fun z => z.2 e3)]
      rw [if_neg e3, if_pos (R.isF hs hg)]
      have h1' : ∀ g, g < i + 1 → A.a 1 g ≠ 0 ∧ A.a 1 g ≠ 3 := fun g hg2 => by
        by_cases e : g = i
        · rw [e]; exact ⟨e0, e3⟩
        · exact h1 g (by omega)
      unfold mX7_isStuck_b59
      rw [nI_1]
      by_cases e5 : A.a 1 i = 5
      · rw [if_pos e5]
        refine ih (i + 1) n (b ||| 0) (by omega) (by omega) h1' ?_
        rcases h2 with ⟨rfl, g, hg2, h⟩ | ⟨rfl, h⟩
        · exact Or.inl ⟨by decide, g, by omega, h⟩
        · refine Or.inr ⟨by decide, fun g hg2 => ?_⟩
          by_cases e : g = i
          · rw [e]; exact e5
          · exact h g (by omega)
      · rw [if_neg e5]
        refine ih (i + 1) n (b ||| 1) (by omega) (by omega) h1' (Or.inl ⟨?_, i, by omega, e5⟩)
        rcases h2 with ⟨rfl, _⟩ | ⟨rfl, _⟩ <;> decide
theorem ys_isStuck (R : ys_R y A Wt) (hs : A.sz) : mX7_isStuck y = some (y, xs_stv A) := by
  unfold mX7_isStuck
  rw [R.1.2.2]
  exact ys_stuckL R hs A.nF 0 xo_n 0 (by omega) (by have := hs.2.1; show A.nF < 300; omega) (fun g hg => absurd hg (by omega)) (Or.inr ⟨rfl, fun g hg => absurd hg (by omega)⟩)
theorem ys_waitingL (R : ys_R y A Wt) (w : xs_W A r) {s : Int32} (hs12 : s = 1 ∨ s = 2) {c : Nat} : ∀ (m i n d : Nat), i + m = A.nF → m < n → mX7_waitingAt_b16 s (nI c) (nI A.nF) n y (nI d) (nI i) = some (y, nI (d + xs_cq (fun g => decide (A.a 1 g = s ∧ A.on g (A.pl g) = nI c)) m i)) := by
  have hs := w.1
  have h8 := hs.2.1
  intro m
  induction m with
  | zero =>
    intro i n d hi hn
    cases n with
    | zero => omega
    | succ n => rw [mX7_waitingAt_b16, if_pos (nI_le (by omega) (by omega))]; rfl
  | succ m ih =>
    intro i n d hi hn
    cases n with
    | zero => omega
    | succ n =>
      have hg : i < A.nF := by omega
      obtain ⟨p1, p2, p3⟩ := w.pl hg
      rw [mX7_waitingAt_b16, if_neg (nI_ge hg (by omega)), if_pos (R.ixF hs hg), nI_clamp (by omega), if_pos (R.isF hs hg), (R.gF hg).1]
      unfold mX7_waitingAt_b61 mX7_waitingAt_b62 xs_cq
      by_cases h : A.a 1 i = s
      · have hp := w.2.2.2.1 i hg (hs12.elim (fun e => Or.inl (h.trans e)) (fun e => Or.inr (Or.inl (h.trans e))))
        rw [if_pos h, if_pos (R.isF hs hg), if_pos (R.isF hs hg), (R.gF hg).2.1, p1, if_pos (R.gT hs hg hp), nI_clamp (by omega), if_pos (R.gP hs hg hp).2.1, (R.step hg hp).2.1]
        by_cases ho : A.on i (A.pl i) = nI c
        · rw [if_pos ho, if_pos (decide_eq_true ⟨h, ho⟩), nI_1, nI_1, ih (i + 1) n (d + 1) (by omega) (by omega), Nat.add_assoc]
        · rw [if_neg ho, if_neg (by rw [decide_eq_false (fun z => ho z.2)]; decide), Int32.add_zero, nI_1, ih (i + 1) n d (by omega) (by omega), Nat.zero_add]
      · rw [if_neg h, if_neg (by rw [decide_eq_false (fun z => h z.1)]; decide), Int32.add_zero, nI_1, ih (i + 1) n d (by omega) (by omega), Nat.zero_add]
theorem ys_waitingAt (R : ys_R y A Wt) (w : xs_W A 99) {c : Nat} (hc : c < A.nC) : mX7_waitingAt 1 (nI c) y = some (y, nI (A.ls (5 + c)).length) ∧ mX7_waitingAt 2 (nI c) y = some (y, nI (A.ls (9 + c)).length) := by
  have h8 := w.1.2.1
  have h4 := w.1.1
  have q : ∀ n s, A.fL n → (∀ g, A.at 99 n g ↔ A.a 1 g = s ∧ A.on g (A.pl g) = nI c) → (A.ls n).length = xs_cq (fun g => decide (A.a 1 g = s ∧ A.on g (A.pl g) = nI c)) A.nF 0 := fun n s hn ha => by
    rw [w.cq hn]
    exact xs_cq_congr A.nF 0 (fun g _ hg => decide_eq_decide.mpr (((w.2.2.2.2.2 n hn).2 g (by omega)).trans (ha g)))
  have e5 := q (5 + c) 1 (xs_fL hc).1 (fun g => by unfold xs_A.at; rw [if_neg (by omega), if_pos (by omega), show 5 + c - 5 = c by omega])
  have e9 := q (9 + c) 2 (xs_fL hc).2 (fun g => by unfold xs_A.at; rw [if_neg (by omega), if_neg (by omega), show 9 + c - 9 = c by omega])
  have h1 := ys_waitingL R w (s := 1) (c := c) (Or.inl rfl) A.nF 0 xo_n 0 (by omega) (by show A.nF < 300; omega)
  have h2 := ys_waitingL R w (s := 2) (c := c) (Or.inr rfl) A.nF 0 xo_n 0 (by omega) (by show A.nF < 300; omega)
  rw [Nat.zero_add] at h1 h2
  rw [e5, e9]
  unfold mX7_waitingAt
  rw [R.1.2.2]
  exact ⟨h1, h2⟩
end YA
