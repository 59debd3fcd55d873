/-! the class and the reference let it grow -/
def xs_A.grown (A : xs_A) (f : Nat) (x o t : Int32) : xs_A := if A.a 1 f = 5 then (A.addS f x o t).ready f else A.addS f x o t
section AG
variable {h : xw_M} {A : xs_A} {k : Nat}
theorem xs_Tr.grow (t : xs_Tr h A) {A' : xs_A} (e1 : A.nC ≤ A'.nC) (e2 : A.nF ≤ A'.nF) (e3 : ∀ f, f < 8 → A.sc f ≤ A'.sc f) : xs_Tr h A' := by
  obtain ⟨T, C, hs, f, t1, t2, t3⟩ := t
  exact ⟨T, C, hs, f, Nat.le_trans t1 e1, Nat.le_trans t2 e2, fun f hf => Nat.le_trans (t3 f hf) (e3 f hf)⟩
theorem xs_o350 {h h' : xw_M} (o : xs_off (xs_rg 0) h h') : ∀ c, 350 ≤ c → h' c = h c := fun c hc => o c (by unfold xs_rg; omega)
theorem xs_c_addChannel (j : xs_JC A h) (w : xs_W A 99) (h4 : A.nC < 4) {p : Nat} (p1 : 1 ≤ p) (p4 : p ≤ 4) : xs_cS h (mX5_addChannel 350 (nI p) h) (nI A.nC, 0) (A.addC p) := by
  have C1 := j.1.set w.1 (t := 8) (i := A.nC) (Or.inr (Or.inl ⟨rfl, h4⟩)) (nI p)
  have C1 : xs_CR 0 (xw_st h (0 + 5 + 7 * A.nC) 0 (nI p)) (A.set 8 A.nC (nI p)) := C1
  unfold mX5_addChannel xo_let
  rw [if_neg (by rw [show (1 : Int32) = nI 1 from rfl]; exact nI_nlt p1 (by omega)), if_pos (by rw [xs_e4]; exact nI_le p4 (by omega)), if_pos (by rw [j.1.c5, xs_e4]; exact nI_lt h4 (by omega)), j.1.c5, xs_channelAt h4, Option.bind_some]
  dsimp only
  rw [C1.c5, nI_1]
  have C2 := C1.setC w.1 (n := A.nC + 1) h4
  have oo : xs_off (xs_rg 0) h (xw_st (xw_st h (0 + 5 + 7 * A.nC) 0 (nI p)) 0 5 (nI (A.nC + 1))) := xs_off.tr (xs_off.st (by unfold xs_rg; omega)) (xs_off.st (by unfold xs_rg; omega))
  exact ⟨_, rfl, ⟨C2, (j.2.off oo (fun c hc => xs_rgs2 hc)).grow (Nat.le_succ _) (Nat.le_refl _) (fun _ _ => Nat.le_refl _)⟩, xs_o350 oo⟩
theorem xs_c1_addChannel {x : Int32} (hx : ∀ p, 1 ≤ p → p ≤ 4 → x ≠ nI p) : mX5_addChannel 350 x h = some (h, 0, 1) := by
  unfold mX5_addChannel
  by_cases h1 : x < 1
  · rw [if_pos h1]
  · rw [if_neg h1]
    by_cases h60 : x ≤ 4
    · obtain ⟨i, hi, rfl⟩ := nI_of2 (x := x) (M := 4) (n := 4) (by decide) (fun z => h1 (Int32.lt_of_lt_of_le z (by decide))) h60
      have : 1 ≤ i := Nat.le_of_not_lt (fun z => h1 (by rw [show i = 0 by omega]; decide))
      exact absurd rfl (hx i this hi)
    · rw [if_neg h60]
theorem xs_c2_addChannel (j : xs_JC A h) (h4 : ¬ A.nC < 4) {p : Nat} (p1 : 1 ≤ p) (p4 : p ≤ 4) : mX5_addChannel 350 (nI p) h = some (h, 0, 2) := by
  have hb := j.1.bd.1
  unfold mX5_addChannel
  rw [if_neg (by rw [show (1 : Int32) = nI 1 from rfl]; exact nI_nlt p1 (by omega)), if_pos (by rw [xs_e4]; exact nI_le p4 (by omega)), if_neg (by rw [j.1.c5, xs_e4]; exact nI_nlt (by omega) (by omega))]
theorem xs_c_addFiber (j : xs_JC A h) (w : xs_W A 99) (fa : xs_fresh A) (h8 : A.nF < 8) : xs_cS h (mX5_addFiber 350 h) (nI A.nF, 0) A.addF := by
  unfold mX5_addFiber xo_let
  rw [if_pos (by rw [j.1.c6, xs_e8]; exact nI_lt h8 (by omega)), j.1.c6, nI_1]
  have C2 := j.1.setN w.1 h8 (fa.1 A.nF (Nat.le_refl _) h8).2.2
  have oo : xs_off (xs_rg 0) h (xw_st h 0 6 (nI (A.nF + 1))) := xs_off.st (by unfold xs_rg; omega)
  exact ⟨_, rfl, ⟨C2, (j.2.off oo (fun c hc => xs_rgs2 hc)).grow (Nat.le_refl _) (Nat.le_succ _) (fun _ _ => Nat.le_refl _)⟩, xs_o350 oo⟩
theorem xs_c2_addFiber (j : xs_JC A h) (h8 : ¬ A.nF < 8) : mX5_addFiber 350 h = some (h, 0, 2) := by
  have hb := j.1.bd.2
  unfold mX5_addFiber
  rw [if_neg (by rw [j.1.c6, xs_e8]; exact nI_nlt (by omega) (by omega))]
theorem xs_ok0 {f : Nat} {o t : Int32} : xs_okS A f 0 o t ↔ ((∃ c, c < A.nC ∧ o = nI c) ∧ ¬ t < -999 ∧ ¬ 999 < t) := by
  refine ⟨fun z => ?_, fun z => Or.inl ⟨rfl, z⟩⟩
  rcases z with ⟨_, a⟩ | ⟨a, _⟩ | ⟨a, _⟩ | a | ⟨a, _⟩ | ⟨a, _⟩ | ⟨a, _⟩
  · exact a
  · exact absurd a (by decide)
  · exact absurd a (by decide)
  · exact absurd a (by decide)
  · exact absurd a (by decide)
  · exact absurd a (by decide)
  · exact absurd a (by decide)
theorem xs_ok1 {f : Nat} {o t : Int32} : xs_okS A f 1 o t ↔ (∃ c, c < A.nC ∧ o = nI c) := by
  refine ⟨fun z => ?_, fun z => Or.inr (Or.inl ⟨rfl, z⟩)⟩
  rcases z with ⟨a, _⟩ | ⟨_, a⟩ | ⟨a, _⟩ | a | ⟨a, _⟩ | ⟨a, _⟩ | ⟨a, _⟩
  · exact absurd a (by decide)
  · exact a
  · exact absurd a (by decide)
  · exact absurd a (by decide)
  · exact absurd a (by decide)
  · exact absurd a (by decide)
  · exact absurd a (by decide)
theorem xs_ok2 {f : Nat} {o t : Int32} : xs_okS A f 2 o t ↔ (¬ o < 1 ∧ ¬ 20 < o) := by
  refine ⟨fun z => ?_, fun z => Or.inr (Or.inr (Or.inl ⟨rfl, z⟩))⟩
  rcases z with ⟨a, _⟩ | ⟨a, _⟩ | ⟨_, a⟩ | a | ⟨a, _⟩ | ⟨a, _⟩ | ⟨a, _⟩
  · exact absurd a (by decide)
  · exact absurd a (by decide)
  · exact a
  · exact absurd a (by decide)
  · exact absurd a (by decide)
  · exact absurd a (by decide)
  · exact absurd a (by decide)
theorem xs_ok3 {f : Nat} {o t : Int32} : xs_okS A f 3 o t ↔ (True) := by
  refine ⟨fun z => ?_, fun z => Or.inr (Or.inr (Or.inr (Or.inl rfl)))⟩
  rcases z with ⟨a, _⟩ | ⟨a, _⟩ | ⟨a, _⟩ | a | ⟨a, _⟩ | ⟨a, _⟩ | ⟨a, _⟩
  · exact absurd a (by decide)
  · exact absurd a (by decide)
  · exact absurd a (by decide)
  · exact trivial
  · exact absurd a (by decide)
  · exact absurd a (by decide)
  · exact absurd a (by decide)
theorem xs_ok4 {f : Nat} {o t : Int32} : xs_okS A f 4 o t ↔ ((∃ g, g < A.nF ∧ o = nI g) ∧ o ≠ nI f) := by
  refine ⟨fun z => ?_, fun z => Or.inr (Or.inr (Or.inr (Or.inr (Or.inl ⟨rfl, z⟩))))⟩
  rcases z with ⟨a, _⟩ | ⟨a, _⟩ | ⟨a, _⟩ | a | ⟨_, a⟩ | ⟨a, _⟩ | ⟨a, _⟩
  · exact absurd a (by decide)
  · exact absurd a (by decide)
  · exact absurd a (by decide)
  · exact absurd a (by decide)
  · exact a
  · exact absurd a (by decide)
  · exact absurd a (by decide)
theorem xs_ok5 {f : Nat} {o t : Int32} : xs_okS A f 5 o t ↔ ((∃ q, q ≤ A.sc f ∧ o = nI q) ∧ ¬ t < 1 ∧ ¬ 9 < t) := by
  refine ⟨fun z => ?_, fun z => Or.inr (Or.inr (Or.inr (Or.inr (Or.inr (Or.inl ⟨rfl, z⟩)))))⟩
  rcases z with ⟨a, _⟩ | ⟨a, _⟩ | ⟨a, _⟩ | a | ⟨a, _⟩ | ⟨_, a⟩ | ⟨a, _⟩
  · exact absurd a (by decide)
  · exact absurd a (by decide)
  · exact absurd a (by decide)
  · exact absurd a (by decide)
  · exact absurd a (by decide)
  · exact a
  · exact absurd a (by decide)
theorem xs_ok6 {f : Nat} {o t : Int32} : xs_okS A f 6 o t ↔ (∃ c, c < A.nC ∧ o = nI c) := by
  refine ⟨fun z => ?_, fun z => Or.inr (Or.inr (Or.inr (Or.inr (Or.inr (Or.inr (⟨rfl, z⟩))))))⟩
  rcases z with ⟨a, _⟩ | ⟨a, _⟩ | ⟨a, _⟩ | a | ⟨a, _⟩ | ⟨a, _⟩ | ⟨_, a⟩
  · exact absurd a (by decide)
  · exact absurd a (by decide)
  · exact absurd a (by decide)
  · exact absurd a (by decide)
  · exact absurd a (by decide)
  · exact absurd a (by decide)
  · exact a
theorem xs_okN {f : Nat} {x o t : Int32} (h0 : ¬ x = 0) (h1 : ¬ x = 1) (h2 : ¬ x = 2) (h3 : ¬ x = 3) (h4 : ¬ x = 4) (h5 : ¬ x = 5) (h6 : ¬ x = 6) : ¬ xs_okS A f x o t := by
  intro z
  rcases z with ⟨a, _⟩ | ⟨a, _⟩ | ⟨a, _⟩ | a | ⟨a, _⟩ | ⟨a, _⟩ | ⟨a, _⟩
  · exact h0 a
  · exact h1 a
  · exact h2 a
  · exact h3 a
  · exact h4 a
  · exact h5 a
  · exact h6 a
/-- a test's answer -/
def xs_yn (h : xw_M) (r : Option (xw_M × Int32)) (p : Prop) : Prop := ∃ b, r = some (h, b) ∧ ((b = 1 ∧ p) ∨ (b = 0 ∧ ¬ p))
theorem xs_yn.y {p : Prop} (hp : p) : xs_yn h (some (h, 1)) p := ⟨1, rfl, Or.inl ⟨rfl, hp⟩⟩
theorem xs_yn.n {p : Prop} (hp : ¬ p) : xs_yn h (some (h, 0)) p := ⟨0, rfl, Or.inr ⟨rfl, hp⟩⟩
theorem xs_cYC (C : xs_CR 0 h A) (o : Int32) : xs_yn h (mX5_isChannel 350 o h) (∃ c, c < A.nC ∧ o = nI c) := by
  by_cases e : ∃ c, c < A.nC ∧ o = nI c
  · obtain ⟨c, hc, rfl⟩ := e
    rw [xs_cC1 C hc]
    exact xs_yn.y ⟨c, hc, rfl⟩
  · rw [xs_cC0 C (fun c hc z => e ⟨c, hc, z⟩)]
    exact xs_yn.n e
theorem xs_cYF (C : xs_CR 0 h A) (o : Int32) : xs_yn h (mX5_isFiber 350 o h) (∃ c, c < A.nF ∧ o = nI c) := by
  by_cases e : ∃ c, c < A.nF ∧ o = nI c
  · obtain ⟨c, hc, rfl⟩ := e
    rw [xs_cF1 C hc]
    exact xs_yn.y ⟨c, hc, rfl⟩
  · rw [xs_cF0 C (fun c hc z => e ⟨c, hc, z⟩)]
    exact xs_yn.n e
theorem xs_c67 (C : xs_CR 0 h A) (o : Int32) : xs_yn h (mX5_isStep_b67 350 o h) (∃ c, c < A.nC ∧ o = nI c) := by
  unfold mX5_isStep_b67
  obtain ⟨b, e, hb⟩ := xs_cYC C o
  rw [e, Option.bind_some]
  dsimp only
  rcases hb with ⟨rfl, p⟩ | ⟨rfl, p⟩
  · rw [if_pos (Or.inr rfl)]
    exact xs_yn.y p
  · rw [if_pos (Or.inl rfl)]
    exact xs_yn.n p
theorem xs_cIsStep (C : xs_CR 0 h A) {f : Nat} (hf : f < A.nF) (h12 : A.sc f ≤ 12) (x o t : Int32) : xs_yn h (mX5_isStep 350 (nI f) x o t h) (xs_okS A f x o t) := by
  have h8 := C.bd.2
  have g7 := C.cnt f (by omega)
  unfold mX5_isStep
  by_cases e0 : x = 0
  · subst e0
    rw [if_pos rfl, xs_ok0]
    obtain ⟨b, e, hb⟩ := xs_cYC C o
    rw [e, Option.bind_some]
    dsimp only
    rcases hb with ⟨rfl, p⟩ | ⟨rfl, p⟩
    · rw [if_neg (by decide)]
      unfold mX5_isValue
      by_cases t1 : t < -999
      · rw [if_pos t1, Option.bind_some]
        dsimp only
        rw [if_pos rfl]
        exact xs_yn.n (fun z => z.2.1 t1)
      · by_cases t2 : 999 < t
        · rw [if_neg t1, if_pos t2, Option.bind_some]
          dsimp only
          rw [if_pos rfl]
          exact xs_yn.n (fun z => z.2.2 t2)
        · rw [if_neg t1, if_neg t2, Option.bind_some]
          dsimp only
          rw [if_neg (by decide)]
          exact xs_yn.y ⟨p, t1, t2⟩
    · rw [if_pos rfl]
      exact xs_yn.n (fun z => p z.1)
  rw [if_neg e0]
  by_cases e1 : x = 1
  · subst e1
    rw [if_pos rfl, xs_ok1]
    exact xs_c67 C o
  rw [if_neg e1]
  by_cases e2 : x = 2
  · subst e2
    rw [if_pos rfl, xs_ok2]
    by_cases t1 : o < 1
    · rw [if_pos t1]
      exact xs_yn.n (fun z => z.1 t1)
    · rw [if_neg t1]
      by_cases t2 : 20 < o
      · rw [if_pos t2]
        exact xs_yn.n (fun z => z.2 t2)
      · rw [if_neg t2]
        exact xs_yn.y ⟨t1, t2⟩
  rw [if_neg e2]
  by_cases e3 : x = 3
  · subst e3
    rw [if_pos rfl, xs_ok3]
    exact xs_yn.y trivial
  rw [if_neg e3]
  by_cases e4 : x = 4
  · subst e4
    rw [if_pos rfl, xs_ok4]
    obtain ⟨b, e, hb⟩ := xs_cYF C o
    rw [e, Option.bind_some]
    dsimp only
    rcases hb with ⟨rfl, p⟩ | ⟨rfl, p⟩
    · rw [if_neg (by decide)]
      by_cases t1 : o = nI f
      · rw [if_pos t1]
        exact xs_yn.n (fun z => z.2 t1)
      · rw [if_neg t1]
        exact xs_yn.y ⟨p, t1⟩
    · rw [if_pos rfl]
      exact xs_yn.n (fun z => p z.1)
  rw [if_neg e4]
  by_cases e5 : x = 5
  · subst e5
    rw [if_pos rfl, xs_ok5]
    by_cases t0 : o < 0
    · rw [if_pos t0]
      refine xs_yn.n (fun z => ?_)
      obtain ⟨⟨q, hq, rfl⟩, _⟩ := z
      exact nI_pos (by omega) t0
    · rw [if_neg t0, xs_fiberAt (by omega), Option.bind_some]
      dsimp only
      obtain ⟨i, hi, rfl⟩ := nI_of t0
      by_cases t1 : i ≤ A.sc f
      · rw [if_neg (by rw [g7]; exact nI_nlt t1 (by omega))]
        by_cases t2 : t < 1
        · rw [if_pos t2]
          exact xs_yn.n (fun z => z.2.1 t2)
        · rw [if_neg t2]
          by_cases t3 : 9 < t
          · rw [if_pos t3]
            exact xs_yn.n (fun z => z.2.2 t3)
          · rw [if_neg t3]
            exact xs_yn.y ⟨⟨i, t1, rfl⟩, t2, t3⟩
      · rw [if_pos (by rw [g7]; exact nI_lt (by omega) (by omega))]
        refine xs_yn.n (fun z => ?_)
        obtain ⟨⟨q, hq, e⟩, _⟩ := z
        have := (nI_eq hi (by omega)).mp e
        omega
  rw [if_neg e5]
  by_cases e6 : x = 6
  · subst e6
    rw [if_pos rfl, xs_ok6]
    exact xs_c67 C o
  · rw [if_neg e6]
    exact xs_yn.n (xs_okN e0 e1 e2 e3 e4 e5 e6)
end AG
