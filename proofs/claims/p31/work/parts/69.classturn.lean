/-! the class's turn -/
section CU
variable {B : Nat} {h : xw_M} {A : xs_A} {r : Nat}
theorem xs_cRise : ∀ (m i n : Nat) (h : xw_M) (A : xs_A), xs_CR B h A → xs_W A 99 → i + m = A.nF → m < n → xs_to B h (mX1_wakeSleepers_b2 B n h (nI i)) () (xs_A.rise m i A) := by
  intro m
  induction m with
  | zero =>
    intro i n h A C w hi hn
    cases n with
    | zero => omega
    | succ n =>
      have := w.1.2.1
      unfold mX1_wakeSleepers_b2 xs_A.rise
      rw [if_pos (by rw [C.c6]; exact nI_le (by omega) (by omega))]
      exact ⟨h, rfl, C, xs_off.rf⟩
  | succ m ih =>
    intro i n h A C w hi hn
    cases n with
    | zero => omega
    | succ n =>
      have h8 := w.1.2.1
      have hi2 : i < A.nF := by omega
      unfold mX1_wakeSleepers_b2 xs_A.rise
      rw [if_neg (by rw [C.c6]; exact nI_ge hi2 (by omega)), xs_fiberAt (by omega), Option.bind_some]
      dsimp only
      have g1 := C.getF (t := 1) (by omega) hi2
      have g6 := C.getF (t := 6) (by omega) hi2
      have g9 : h B 7 = A.a 9 0 := C.sca 9 0 (Or.inr (Or.inr (Or.inl ⟨rfl, rfl⟩)))
      by_cases e4 : A.a 1 i = 3
      · rw [if_pos (g1.trans e4), if_pos e4]
        by_cases eo : A.a 6 i = A.a 9 0
        · rw [if_pos (g6.trans (eo.trans g9.symm)), if_pos eo]
          have w2 := w.ready hi2 (by omega) (by rw [e4]; decide)
          obtain ⟨h1, e1, C1, o1⟩ := xs_ready C w.1 hi2 ((w.2.2.2.2.2 0 (Or.inl rfl)).1.lt w.1 hi2 (fun z => by
            have := ((w.2.2.2.2.2 0 (Or.inl rfl)).2 i hi2).mp z
            unfold xs_A.at at this
            rw [if_pos rfl, e4] at this
            exact absurd this.1 (by decide)))
          rw [e1, Option.bind_some]
          unfold mX1_wakeSleepers_b40
          rw [nI_1]
          obtain ⟨h2, e2, C2, o2⟩ := ih (i + 1) n h1 (A.ready i) C1 w2 (by show i + 1 + m = A.nF; omega) (by omega)
          exact ⟨h2, e2, C2, o1.tr o2⟩
        · rw [if_neg (fun z => eo (g6.symm.trans (z.trans g9))), if_neg eo]
          unfold mX1_wakeSleepers_b40
          rw [nI_1]
          exact ih (i + 1) n h A C w (by omega) (by omega)
      · rw [if_neg (fun z => e4 (g1.symm.trans z)), if_neg e4]
        unfold mX1_wakeSleepers_b40
        rw [nI_1]
        exact ih (i + 1) n h A C w (by omega) (by omega)
theorem xs_c81 (C : xs_CR B h A) (w : xs_W A r) (hf : r < A.nF) : xs_to B h (mX1_letTurnGoBy_b81 B (B + 40 + 15 * r) h) () (A.fin r).tick := by
  unfold mX1_letTurnGoBy_b81
  obtain ⟨h1, e1, C1, o1⟩ := xs_cEnd C w hf
  rw [e1, Option.bind_some]
  obtain ⟨h2, e2, C2, o2⟩ := xs_cTick C1 (w.fin hf).1.1
  exact ⟨h2, e2, C2, o1.tr o2⟩
theorem xs_cLoop : ∀ (m d n : Nat) (h : xw_M) (A : xs_A), xs_CR B h A → xs_W A r → r < A.nF → A.a 1 r = 0 → d + m = 4 → m + 1 < n → xs_to B h (mX1_letTurnGoBy_b53 B (B + 40 + 15 * r) n h 1 (nI d)) () ((xs_A.go r m A).fin r).tick := by
  intro m
  induction m with
  | zero =>
    intro d n h A C w hf h0 hd hn
    cases n with
    | zero => omega
    | succ n =>
      unfold mX1_letTurnGoBy_b53
      rw [if_pos (by rw [show d = 4 by omega]; decide)]
      exact xs_c81 C w hf
  | succ m ih =>
    intro d n h A C w hf h0 hd hn
    cases n with
    | zero => omega
    | succ n =>
      unfold mX1_letTurnGoBy_b53 xs_A.go
      rw [if_neg (by rw [xs_e4]; exact nI_ge (by omega) (by decide)), if_neg (by decide), xs_hasLeft C hf, Option.bind_some]
      dsimp only
      have hpl := w.pl hf
      by_cases hl : nI (A.sc r) ≤ A.a 2 r
      · rw [if_pos hl, if_pos hl, if_pos rfl]
        exact xs_c81 C w hf
      · rw [if_neg hl, if_neg hl, if_neg (by decide)]
        have hp : A.pl r < A.sc r := by
          rw [hpl.1, nI_leI (by omega) (by omega)] at hl
          omega
        obtain ⟨w1, w2⟩ := w.act hf h0 hp
        obtain ⟨h1, e1, C1, o1⟩ := xs_cStep C w hf h0 hp
        rw [e1, Option.bind_some, nI_1]
        dsimp only
        have hf1 : r < (A.act r).nF := by rw [w2.2.1]; exact hf
        by_cases hk : A.kd r (A.pl r) = 3 ∨ ¬ (A.act r).a 1 r = 0
        · rw [if_pos hk, if_pos hk]
          cases n with
          | zero => omega
          | succ n =>
            unfold mX1_letTurnGoBy_b53
            obtain ⟨h2, e2, C2, o2⟩ := xs_c81 C1 w1 hf1
            rw [if_pos rfl, e2, ite_self]
            exact ⟨h2, rfl, C2, o1.tr o2⟩
        · rw [if_neg hk, if_neg hk]
          have e0 : (A.act r).a 1 r = 0 := Classical.byContradiction fun z => hk (Or.inr z)
          obtain ⟨h2, e2, C2, o2⟩ := ih (d + 1) n h1 (A.act r) C1 w1 hf1 e0 (by omega) (by omega)
          exact ⟨h2, e2, C2, o1.tr o2⟩
/-- the class lets a turn go by as the clock does -/
theorem xs_cTurn (C : xs_CR B h A) (w : xs_W A 99) : xs_to B h (mX1_letTurnGoBy B h) () A.turn := by
  unfold mX1_letTurnGoBy mX1_wakeSleepers xs_A.turn
  have h8 := w.1.2.1
  obtain ⟨h1, e1, C1, o1⟩ := xs_cRise A.nF 0 xo_n h A C w (by omega) (by show A.nF < 300; omega)
  obtain ⟨w1, s1⟩ := xs_W.rise A.nF 0 A w (by omega)
  rw [show (0 : Int32) = nI 0 from rfl, e1, Option.bind_some]
  dsimp only
  generalize xs_A.rise A.nF 0 A = A1 at C1 w1 s1
  obtain ⟨hq, hq8⟩ := xs_len C1 (n := 0) (Or.inl rfl)
  cases he : A1.ls 0 with
  | nil =>
    rw [he] at hq
    rw [if_neg (by rw [show B + 3 = xs_qk B 0 from rfl, hq]; decide)]
    have hd : A1.dom 10 0 := Or.inr (Or.inr (Or.inr (Or.inl ⟨rfl, rfl⟩)))
    have g9 : h1 B 8 = A1.a 10 0 := C1.sca 10 0 hd
    unfold xo_let
    dsimp only
    rw [g9]
    have C2 := C1.set w1.1 hd (A1.a 10 0 + 1)
    obtain ⟨h3, e3, C3, o3⟩ := xs_cTick (h := xw_st h1 B 8 (A1.a 10 0 + 1)) C2 w1.1
    exact ⟨h3, e3, C3, (o1.tr (xs_off.st (xs_sk_rg w1.1 hd))).tr o3⟩
  | cons x l =>
    rw [he] at hq hq8
    obtain ⟨f, hf, hx, h0, hw⟩ := w1.work he
    have h81 := w1.1.2.1
    subst hx
    rw [if_pos (by rw [show B + 3 = xs_qk B 0 from rfl, hq]; exact nI_lt (a := 0) (b := (nI f :: l).length) (Nat.succ_pos _) (by omega))]
    obtain ⟨h2, e2, C2, o2⟩ := C1.pop w1.1 (n := 0) (Or.inl rfl) he
    rw [show B + 3 = xs_qk B 0 from rfl, e2, Option.bind_some]
    dsimp only
    rw [xs_fiberAt (by omega), Option.bind_some]
    dsimp only
    rw [C2.getF (t := 5) (f := f) (by omega) hf]
    unfold xo_let
    obtain ⟨C3, o3⟩ := C2.setF w1.1 (t := 5) (f := f) (by omega) hf ((A1.setL 0 l).a 5 f + 1)
    have w3 : xs_W ((A1.setL 0 l).set 5 f ((A1.setL 0 l).a 5 f + 1)) f := hw.scal (by decide)
    obtain ⟨h4, e4, C4, o4⟩ := xs_cLoop 4 0 xo_n _ _ C3 w3 hf h0 (by decide) (by decide)
    refine ⟨h4, e4, ?_, ((o1.tr o2).tr o3).tr o4⟩
    show xs_CR B h4 (((xs_A.go (nI f).toNatClampNeg 4 ((A1.setL 0 l).set 5 (nI f).toNatClampNeg (A1.a 5 (nI f).toNatClampNeg + 1))).fin (nI f).toNatClampNeg).tick)
    rw [nI_clamp (by omega)]
    exact C4
end CU
