/-! the class's step, turn -/
section CT
variable {B : Nat} {h : xw_M} {A : xs_A} {r : Nat}
theorem xs_151 {A' : xs_A} {h1 : xw_M} (hk3 : ¬ A.kd r (A.pl r) = 3) (e : A.act r = A') (hf : r < A'.nF) (C1 : xs_CR B h1 A') (o1 : xs_off (xs_rg B) h h1) : xs_to B h (mX1_doStep_b151 (B + 40 + 15 * r) h1) (if A.kd r (A.pl r) = 3 ∨ ¬ (A.act r).a 1 r = 0 then 0 else 1) (A.act r) := by
  rw [e]
  unfold mX1_doStep_b151
  have eg := C1.getF (t := 1) (by omega) hf
  by_cases e0 : A'.a 1 r = 0
  · rw [if_pos (eg.trans e0), if_neg (fun z => z.elim hk3 (fun z => z e0))]
    exact ⟨h1, rfl, C1, o1⟩
  · rw [if_neg (fun z => e0 (eg.symm.trans z)), if_pos (Or.inr e0)]
    exact ⟨h1, rfl, C1, o1⟩
theorem xs_cStep (C : xs_CR B h A) (w : xs_W A r) (hf : r < A.nF) (h0 : A.a 1 r = 0) (hp : A.pl r < A.sc r) : xs_to B h (mX1_doStep B (B + 40 + 15 * r) h) (if A.kd r (A.pl r) = 3 ∨ ¬ (A.act r).a 1 r = 0 then 0 else 1) (A.act r) := by
  have hpl := w.pl hf
  have hb := w.1
  obtain ⟨t1, t2, t3, k, hk7, hk⟩ := w.2.1 r (A.pl r) hf hp
  obtain ⟨s0, s1, s2⟩ := C.stp r (A.pl r) hf hp
  have ne : ∀ v, A.kd r (A.pl r) ≠ v → ¬ h (B + 42 + 15 * r + A.pl r) 0 = v := fun v hv z => hv (s0.symm.trans z)
  have g3 := C.getF (t := 3) (by omega) hf
  have g9 : h B 7 = A.a 9 0 := C.sca 9 0 (Or.inr (Or.inr (Or.inl ⟨rfl, rfl⟩)))
  have sa : ∀ {A' : xs_A}, xs_ss A A' → r < A'.nF := fun z => by rw [z.2.1]; exact hf
  unfold mX1_doStep
  rw [C.getF (t := 2) (by omega) hf, hpl.1, xs_stepAt (by omega), Option.bind_some, show B + 40 + 15 * r + 2 + A.pl r = B + 42 + 15 * r + A.pl r by omega]
  dsimp only
  rcases (show k = 0 ∨ k = 1 ∨ k = 2 ∨ k = 3 ∨ k = 4 ∨ k = 5 ∨ k = 6 by omega) with rfl | rfl | rfl | rfl | rfl | rfl | rfl
  · have hk : A.kd r (A.pl r) = 0 := hk
    have hk3 : ¬ A.kd r (A.pl r) = 3 := by rw [hk]; decide
    rw [if_pos (s0.trans hk)]
    obtain ⟨c, hc, hoc⟩ := t1 (Or.inl hk)
    rw [s1, hoc, s2]
    have ea : A.act r = A.send r c (A.tw r (A.pl r)) := by unfold xs_A.act; rw [if_pos hk, hoc, nI_clamp (by have := hb.1; omega)]
    obtain ⟨h1, e1, C1, o1⟩ := xs_cSend (v := (A.tw r (A.pl r))) C w hf h0 hc
    rw [e1, Option.bind_some]
    exact xs_151 hk3 ea (sa (w.send hf h0 hp hc hoc).2) C1 o1
  · have hk : A.kd r (A.pl r) = 1 := hk
    have hk3 : ¬ A.kd r (A.pl r) = 3 := by rw [hk]; decide
    rw [if_neg (ne 0 (by rw [hk]; decide)), if_pos (s0.trans hk)]
    obtain ⟨c, hc, hoc⟩ := t1 (Or.inr (Or.inl hk))
    rw [s1, hoc]
    have ea : A.act r = A.take r c := by unfold xs_A.act; rw [if_neg (by rw [hk]; decide), if_pos hk, hoc, nI_clamp (by have := hb.1; omega)]
    obtain ⟨h1, e1, C1, o1⟩ := xs_cTake C w hf h0 hc
    rw [e1, Option.bind_some]
    exact xs_151 hk3 ea (sa (w.take hf h0 hp hc hoc).2) C1 o1
  · have hk : A.kd r (A.pl r) = 2 := hk
    have hk3 : ¬ A.kd r (A.pl r) = 3 := by rw [hk]; decide
    rw [if_neg (ne 0 (by rw [hk]; decide)), if_neg (ne 1 (by rw [hk]; decide)), if_pos (s0.trans hk)]
    rw [s1, g9]
    have ea : A.act r = ((A.set 6 r (A.a 9 0 + A.on r (A.pl r))).set 1 r 3).move r := by unfold xs_A.act; rw [if_neg (by rw [hk]; decide), if_neg (by rw [hk]; decide), if_pos hk]
    obtain ⟨C1, o1⟩ := C.setF w.1 (t := 6) (by omega) hf (A.a 9 0 + A.on r (A.pl r))
    obtain ⟨C2, o2⟩ := C1.setF w.1 (t := 1) (f := r) (by omega) hf 3
    obtain ⟨h3, e3, C3, o3⟩ := xs_move C2 w.1 (f := r) hf
    unfold xo_let
    dsimp only
    rw [e3, Option.bind_some]
    exact xs_151 hk3 ea hf C3 ((o1.tr o2).tr o3)
  · have hk : A.kd r (A.pl r) = 3 := hk
    have hk3 : A.kd r (A.pl r) = 3 := hk
    rw [if_neg (ne 0 (by rw [hk]; decide)), if_neg (ne 1 (by rw [hk]; decide)), if_neg (ne 2 (by rw [hk]; decide)), if_pos (s0.trans hk)]
    have ea : A.act r = A.move r := by unfold xs_A.act; rw [if_neg (by rw [hk]; decide), if_neg (by rw [hk]; decide), if_neg (by rw [hk]; decide), if_pos hk]
    obtain ⟨h1, e1, C1, o1⟩ := xs_move C w.1 hf
    unfold mX1_doStep_b145
    rw [e1, Option.bind_some, if_pos (Or.inl hk3), ea]
    exact ⟨h1, rfl, C1, o1⟩
  · have hk : A.kd r (A.pl r) = 4 := hk
    have hk3 : ¬ A.kd r (A.pl r) = 3 := by rw [hk]; decide
    rw [if_neg (ne 0 (by rw [hk]; decide)), if_neg (ne 1 (by rw [hk]; decide)), if_neg (ne 2 (by rw [hk]; decide)), if_neg (ne 3 (by rw [hk]; decide)), if_pos (s0.trans hk)]
    obtain ⟨g, hg, hog⟩ := t2 hk
    rw [s1, hog]
    have ea : A.act r = A.join r g := by unfold xs_A.act; rw [if_neg (by rw [hk]; decide), if_neg (by rw [hk]; decide), if_neg (by rw [hk]; decide), if_neg (by rw [hk]; decide), if_pos hk, hog, nI_clamp (by have := hb.2.1; omega)]
    obtain ⟨h1, e1, C1, o1⟩ := xs_cJoin C w hf hg
    rw [e1, Option.bind_some]
    exact xs_151 hk3 ea (by unfold xs_A.join; split <;> exact hf) C1 o1
  · have hk : A.kd r (A.pl r) = 5 := hk
    have hk3 : ¬ A.kd r (A.pl r) = 3 := by rw [hk]; decide
    rw [if_neg (ne 0 (by rw [hk]; decide)), if_neg (ne 1 (by rw [hk]; decide)), if_neg (ne 2 (by rw [hk]; decide)), if_neg (ne 3 (by rw [hk]; decide)), if_neg (ne 4 (by rw [hk]; decide)), if_pos (s0.trans hk)]
    have ea : A.act r = A.back r (A.pl r) := by unfold xs_A.act; rw [if_neg (by rw [hk]; decide), if_neg (by rw [hk]; decide), if_neg (by rw [hk]; decide), if_neg (by rw [hk]; decide), if_neg (by rw [hk]; decide), if_pos hk]
    obtain ⟨h1, e1, C1, o1⟩ := xs_cBack C w hf hp
    rw [e1, Option.bind_some]
    exact xs_151 hk3 ea (by unfold xs_A.back; split <;> exact hf) C1 o1
  · have hk : A.kd r (A.pl r) = 6 := hk
    have hk3 : ¬ A.kd r (A.pl r) = 3 := by rw [hk]; decide
    rw [if_neg (ne 0 (by rw [hk]; decide)), if_neg (ne 1 (by rw [hk]; decide)), if_neg (ne 2 (by rw [hk]; decide)), if_neg (ne 3 (by rw [hk]; decide)), if_neg (ne 4 (by rw [hk]; decide)), if_neg (ne 5 (by rw [hk]; decide)), if_pos (s0.trans hk)]
    obtain ⟨c, hc, hoc⟩ := t1 (Or.inr (Or.inr hk))
    rw [s1, hoc, g3]
    have ea : A.act r = A.send r c (A.a 3 r) := by unfold xs_A.act; rw [if_neg (by rw [hk]; decide), if_neg (by rw [hk]; decide), if_neg (by rw [hk]; decide), if_neg (by rw [hk]; decide), if_neg (by rw [hk]; decide), if_neg (by rw [hk]; decide), if_pos hk, hoc, nI_clamp (by have := hb.1; omega)]
    obtain ⟨h1, e1, C1, o1⟩ := xs_cSend (v := (A.a 3 r)) C w hf h0 hc
    rw [e1, Option.bind_some]
    exact xs_151 hk3 ea (sa (w.send hf h0 hp hc hoc).2) C1 o1
theorem xs_cTick (C : xs_CR B h A) (hs : A.sz) : xs_to B h (mX1_letTurnGoBy_b86 B h) () A.tick := by
  have hd : A.dom 9 0 := Or.inr (Or.inr (Or.inl ⟨rfl, rfl⟩))
  have g9 : h B 7 = A.a 9 0 := C.sca 9 0 hd
  unfold mX1_letTurnGoBy_b86 xo_let
  rw [g9]
  exact ⟨_, rfl, C.set hs hd _, xs_off.st (xs_sk_rg hs hd)⟩
theorem xs_hasLeft (C : xs_CR B h A) {f : Nat} (hf : f < A.nF) : mX2_hasStepsLeft (B + 40 + 15 * f) h = some (h, if nI (A.sc f) ≤ A.a 2 f then 0 else 1) := by
  unfold mX2_hasStepsLeft
  rw [C.cnt f (Nat.lt_of_lt_of_le hf C.bd.2), C.getF (t := 2) (by omega) hf]
  split <;> rfl
theorem xs_cJoins {f : Nat} (hf8 : f < 8) : ∀ (m i n : Nat) (h : xw_M) (A : xs_A), xs_CR B h A → xs_W A 99 → i + m = A.nF → m < n → xs_to B h (mX1_endTurn_b34 B (B + 40 + 15 * f) n h (nI i)) () (xs_A.joins f m i A) := by
  intro m
  induction m with
  | zero =>
    intro i n h A C w hi hn
    cases n with
    | zero => omega
    | succ n =>
      have := w.1.2.1
      unfold mX1_endTurn_b34 xs_A.joins
      rw [if_pos (by rw [C.c6]; exact nI_le (by omega) (by omega))]
      exact ⟨h, rfl, C, xs_off.rf⟩
  | succ m ih =>
    intro i n h A C w hi hn
    cases n with
    | zero => omega
    | succ n =>
      have h8 := w.1.2.1
      have hi2 : i < A.nF := by omega
      unfold mX1_endTurn_b34 xs_A.joins
      rw [if_neg (by rw [C.c6]; exact nI_ge hi2 (by omega)), xs_fiberAt (by omega), Option.bind_some]
      dsimp only
      have g1 := C.getF (t := 1) (by omega) hi2
      by_cases e4 : A.a 1 i = 4
      · have hp := w.2.2.2.1 i hi2 (Or.inr (Or.inr e4))
        have hpl := w.pl hi2
        rw [if_pos (g1.trans e4), if_pos e4, C.getF (t := 2) (by omega) hi2, hpl.1, xs_stepAt (by omega), Option.bind_some, show B + 40 + 15 * i + 2 + A.pl i = B + 42 + 15 * i + A.pl i by omega]
        dsimp only
        have so := (C.stp i (A.pl i) hi2 hp).2.1
        have nf := C.num f hf8
        by_cases eo : A.on i (A.pl i) = nI f
        · rw [if_pos (so.trans (eo.trans nf.symm)), if_pos eo]
          have w2 := w.ready hi2 (by omega) (by rw [e4]; decide)
          obtain ⟨h1, e1, C1, o1⟩ := xs_ready C w.1 hi2 ((w.2.2.2.2.2 0 (Or.inl rfl)).1.lt w.1 hi2 (fun z => by
            have := ((w.2.2.2.2.2 0 (Or.inl rfl)).2 i hi2).mp z
            unfold xs_A.at at this
            rw [if_pos rfl, e4] at this
            exact absurd this.1 (by decide)))
          rw [e1, Option.bind_some]
          unfold mX1_endTurn_b79
          rw [nI_1]
          obtain ⟨h2, e2, C2, o2⟩ := ih (i + 1) n h1 (A.ready i) C1 w2 (by show i + 1 + m = A.nF; omega) (by omega)
          exact ⟨h2, e2, C2, o1.tr o2⟩
        · rw [if_neg (fun z => eo (so.symm.trans (z.trans nf))), if_neg eo]
          unfold mX1_endTurn_b79
          rw [nI_1]
          exact ih (i + 1) n h A C w (by omega) (by omega)
      · rw [if_neg (fun z => e4 (g1.symm.trans z)), if_neg e4]
        unfold mX1_endTurn_b79
        rw [nI_1]
        exact ih (i + 1) n h A C w (by omega) (by omega)
theorem xs_cEnd (C : xs_CR B h A) (w : xs_W A r) (hf : r < A.nF) : xs_to B h (mX1_endTurn B (B + 40 + 15 * r) h) () (A.fin r) := by
  have h8 := w.1.2.1
  unfold mX1_endTurn xs_A.fin
  have g1 := C.getF (t := 1) (by omega) hf
  by_cases e0 : A.a 1 r = 0
  · rw [if_pos (g1.trans e0), if_pos e0, xs_hasLeft C hf, Option.bind_some]
    dsimp only
    by_cases hn : nI (A.sc r) ≤ A.a 2 r
    · rw [if_pos hn, if_pos hn, if_pos rfl]
      obtain ⟨C1, o1⟩ := C.setF w.1 (t := 1) (f := r) (by omega) hf 5
      have w1 := (w.st (s := 5) hf (by rw [e0]; decide) (by decide) (fun z => absurd z (by decide))).rest (by rw [xs_set_eq]; decide)
      obtain ⟨h2, e2, C2, o2⟩ := xs_cJoins (f := r) (by omega) A.nF 0 xo_n _ _ C1 w1 (by show 0 + A.nF = A.nF; omega) (by show A.nF < 300; omega)
      exact ⟨h2, e2, C2, o1.tr o2⟩
    · rw [if_neg hn, if_neg hn, if_neg (by decide), C.num r (by omega)]
      obtain ⟨h2, e2, C2, o2⟩ := C.add w.1 (n := 0) (Or.inl rfl) (w.room hf (by rw [e0]; decide) (Or.inl rfl)) (nI r)
      rw [show B + 3 = xs_qk B 0 from rfl, e2, Option.bind_some]
      exact ⟨h2, rfl, C2, o2⟩
  · rw [if_neg (fun z => e0 (g1.symm.trans z)), if_neg e0]
    exact ⟨h, rfl, C, xs_off.rf⟩
end CT
