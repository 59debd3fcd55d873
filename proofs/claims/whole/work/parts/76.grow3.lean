/-! the reference lets it grow -/
section AI
variable {h : xw_M} {A : xs_A} {k : Nat}
theorem xs_rP1 {p : Nat} (h1 : 1 ≤ p) (h2 : p ≤ 4) : mX6_isFrom (nI p) 1 4 h = some (h, 1) := by
  unfold mX6_isFrom
  rw [if_neg (by rw [show (1 : Int32) = nI 1 from rfl]; exact nI_nlt h1 (by omega)), if_neg (by rw [xs_e4]; exact nI_nlt h2 (by omega))]
theorem xs_rP0 {x : Int32} (hx : ∀ t, 1 ≤ t → t ≤ 4 → x ≠ nI t) : mX6_isFrom x 1 4 h = some (h, 0) := by
  unfold mX6_isFrom
  by_cases h1 : x < 1
  · rw [if_pos h1]
  · rw [if_neg h1]
    by_cases h60 : x ≤ 4
    · obtain ⟨i, hi, rfl⟩ := nI_of2 (x := x) (M := 4) (n := 4) (by decide) (fun z => h1 (Int32.lt_of_lt_of_le z (by decide))) h60
      have : 1 ≤ i := Nat.le_of_not_lt (fun z => h1 (by rw [show i = 0 by omega]; decide))
      exact absurd rfl (hx i this hi)
    · rw [if_pos (Int32.not_le.mp h60)]
theorem xs_r_addChannel (j : xs_JR A k h) (w : xs_W A 99) (h4 : A.nC < 4) {p : Nat} (p1 : 1 ≤ p) (p4 : p ≤ 4) : xs_rS h (mX6_addChannel 351 (nI p) h) (nI A.nC) 0 (A.addC p) k := by
  unfold mX6_addChannel xo_let
  dsimp only
  have j1 := j.t0 w.1 0
  have t1 : xw_st h 351 0 0 351 0 = 0 := xw_stE
  have c1 := xs_t0c (h := h) (t := 0)
  generalize xw_st h 351 0 0 = h1 at j1 t1 c1 ⊢
  obtain ⟨K, S, R⟩ := j1
  rw [xs_rP1 p1 p4, Option.bind_some, show ((h1, (1 : Int32)) : xw_M × Int32).1 = h1 from rfl, show ((h1, (1 : Int32)) : xw_M × Int32).2 = 1 from rfl]
  rw [if_neg (by decide), if_neg (fun z => by
    have := (nI_eq (by omega) (by omega)).mp ((K.1.symm.trans z).trans xs_e4)
    omega), K.1, xs_i 164 (by decide), if_pos (xs_ix (i := 164 + A.nC) (by omega) (by decide)), nI_clamp (n := 164 + A.nC) (by omega)]
  have e1 : xw_st h1 (351 + 5) (164 + A.nC) (nI p) 351 1 = nI A.nC := by rw [xw_st_ne _ _ _ _ (by decide)]; exact K.1
  rw [e1, nI_1, xw_stE, nI_pred]
  have efl : ∀ n, (A.addC p).fL n → A.fL n := by
    intro n hn
    unfold xs_A.fL at hn ⊢
    have : (A.addC p).nC = A.nC + 1 := rfl
    rw [this] at hn
    omega
  have R2 := R.set w.1 (t := 8) (i := A.nC) (Or.inr (Or.inl ⟨rfl, h4⟩)) (nI p) (fun z => absurd z (by decide))
  have R3 := R2.size (A' := A.addC p) rfl rfl rfl efl
  have o : ∀ c, c ≠ 351 → c ≠ 356 → xw_st (xw_st h1 (351 + 5) (164 + A.nC) (nI p)) 351 1 (nI (A.nC + 1)) c = h1 c := fun c c1 c2 => by rw [xw_st_ne _ _ _ _ c1, xw_st_ne _ _ _ _ c2]
  refine ⟨_, rfl, ⟨⟨xw_stE, ?_, ?_, ?_⟩, S, ?_⟩, ?_, fun c hc => (o c (by omega) (by omega)).trans (c1 c hc)⟩
  · rw [xw_stj (fun z => absurd z.2 (by decide)), xw_st_ne _ _ _ _ (by decide)]; exact K.2.1
  · rw [o 352 (by decide) (by decide)]; exact K.2.2.1
  · rw [o 353 (by decide) (by decide), o 354 (by decide) (by decide), o 355 (by decide) (by decide)]; exact K.2.2.2
  · rw [xw_st_ne _ _ _ _ (by decide), show (351 + 5 : Nat) = 356 from rfl, xw_st_eq]
    exact R3
  · rw [xw_stj (fun z => absurd z.2 (by decide)), xw_st_ne _ _ _ _ (by decide)]; exact t1
theorem xs_r1_addChannel (j : xs_JR A k h) (hs : A.sz) {x : Int32} (hx : ∀ p, 1 ≤ p → p ≤ 4 → x ≠ nI p) : xs_rS h (mX6_addChannel 351 x h) 0 1 A k := by
  unfold mX6_addChannel xo_let
  dsimp only
  have j1 := j.t0 hs 0
  rw [xs_rP0 hx, Option.bind_some]
  dsimp only
  rw [if_pos rfl]
  exact ((xs_rNo j1 hs).bnd).pre xs_t0c
theorem xs_r2_addChannel (j : xs_JR A k h) (hs : A.sz) (h4 : ¬ A.nC < 4) {p : Nat} (p1 : 1 ≤ p) (p4 : p ≤ 4) : xs_rS h (mX6_addChannel 351 (nI p) h) 0 2 A k := by
  unfold mX6_addChannel xo_let
  dsimp only
  have j1 := j.t0 hs 0
  have hb := hs.1
  rw [xs_rP1 p1 p4, Option.bind_some]
  dsimp only
  rw [if_neg (by decide), if_pos (by rw [j1.1.1, show A.nC = 4 by omega]; decide)]
  exact ((xs_rNo j1 hs).bnd).pre xs_t0c
theorem xs_r_addFiber (j : xs_JR A k h) (w : xs_W A 99) (fa : xs_fresh A) (h8 : A.nF < 8) : xs_rS h (mX6_addFiber 351 h) (nI A.nF) 0 A.addF k := by
  unfold mX6_addFiber xo_let
  dsimp only
  have j1 := j.t0 w.1 0
  have t1 : xw_st h 351 0 0 351 0 = 0 := xw_stE
  have c1 := xs_t0c (h := h) (t := 0)
  generalize xw_st h 351 0 0 = h1 at j1 t1 c1 ⊢
  obtain ⟨K, S, R⟩ := j1
  rw [if_neg (fun z => by
    have := (nI_eq (by omega) (by omega)).mp ((K.2.1.symm.trans z).trans xs_e8)
    omega), K.2.1, xs_i 12 (by decide), if_pos (xs_ix (i := 12 + A.nF) (by omega) (by decide)), nI_clamp (n := 12 + A.nF) (by omega)]
  have e1 : xw_st h1 (351 + 5) (12 + A.nF) 5 351 2 = nI A.nF := by rw [xw_st_ne _ _ _ _ (by decide)]; exact K.2.1
  rw [e1, nI_1, xw_stE, nI_pred]
  obtain ⟨q1, q2, q3⟩ := fa.1 A.nF (Nat.le_refl _) h8
  have R3 := R.addF w.1 h8 q1 (w.addF fa h8).1.1
  have o : ∀ c, c ≠ 351 → c ≠ 356 → xw_st (xw_st h1 (351 + 5) (12 + A.nF) 5) 351 2 (nI (A.nF + 1)) c = h1 c := fun c c1 c2 => by rw [xw_st_ne _ _ _ _ c1, xw_st_ne _ _ _ _ c2]
  refine ⟨_, rfl, ⟨⟨?_, xw_stE, ?_, ?_⟩, S, ?_⟩, ?_, fun c hc => (o c (by omega) (by omega)).trans (c1 c hc)⟩
  · rw [xw_stj (fun z => absurd z.2 (by decide)), xw_st_ne _ _ _ _ (by decide)]; exact K.1
  · rw [o 352 (by decide) (by decide)]; exact K.2.2.1
  · rw [o 353 (by decide) (by decide), o 354 (by decide) (by decide), o 355 (by decide) (by decide)]
    intro f i hf hi
    have hf : f < A.nF + 1 := hf
    have hi : i < A.sc f := hi
    refine K.2.2.2 f i ?_ hi
    by_cases e : f = A.nF
    · rw [e, q3] at hi; omega
    · omega
  · rw [xw_st_ne _ _ _ _ (by decide), show (351 + 5 : Nat) = 356 from rfl, xw_st_eq]
    exact R3
  · rw [xw_stj (fun z => absurd z.2 (by decide)), xw_st_ne _ _ _ _ (by decide)]; exact t1
theorem xs_r2_addFiber (j : xs_JR A k h) (hs : A.sz) (h8 : ¬ A.nF < 8) : xs_rS h (mX6_addFiber 351 h) 0 1 A k := by
  unfold mX6_addFiber xo_let
  dsimp only
  have j1 := j.t0 hs 0
  have hb := hs.2.1
  rw [if_pos (by rw [j1.1.2.1, show A.nF = 8 by omega]; decide)]
  exact ((xs_rNo j1 hs).bnd).pre xs_t0c
theorem xs_rYC (j : xs_JR A k h) (h4 : A.nC ≤ 4) (o : Int32) : xs_yn h (mX6_isChannel 351 o h) (∃ c, c < A.nC ∧ o = nI c) := by
  by_cases e : ∃ c, c < A.nC ∧ o = nI c
  · obtain ⟨c, hc, rfl⟩ := e
    rw [xs_rC1 j h4 hc]
    exact xs_yn.y ⟨c, hc, rfl⟩
  · rw [xs_rC0 j h4 (fun c hc z => e ⟨c, hc, z⟩)]
    exact xs_yn.n e
theorem xs_rYF (j : xs_JR A k h) (h8 : A.nF ≤ 8) (o : Int32) : xs_yn h (mX6_isFiber 351 o h) (∃ c, c < A.nF ∧ o = nI c) := by
  by_cases e : ∃ c, c < A.nF ∧ o = nI c
  · obtain ⟨c, hc, rfl⟩ := e
    rw [xs_rF1 j h8 hc]
    exact xs_yn.y ⟨c, hc, rfl⟩
  · rw [xs_rF0 j h8 (fun c hc z => e ⟨c, hc, z⟩)]
    exact xs_yn.n e
/-- between two bounds -/
theorem xs_rYB (x lo hi : Int32) : xs_yn h (mX6_isFrom x lo hi h) (¬ x < lo ∧ ¬ hi < x) := by
  unfold mX6_isFrom
  by_cases t1 : x < lo
  · rw [if_pos t1]
    exact xs_yn.n (fun z => z.1 t1)
  · by_cases t2 : hi < x
    · rw [if_neg t1, if_pos t2]
      exact xs_yn.n (fun z => z.2 t2)
    · rw [if_neg t1, if_neg t2]
      exact xs_yn.y ⟨t1, t2⟩
theorem xs_r72c (j : xs_JR A k h) (h4 : A.nC ≤ 4) (o : Int32) : xs_yn h (mX6_isStep_b72 351 o h) (∃ c, c < A.nC ∧ o = nI c) := by
  unfold mX6_isStep_b72
  obtain ⟨b, e, hb⟩ := xs_rYC j h4 o
  rw [e, Option.bind_some]
  dsimp only
  rcases hb with ⟨rfl, p⟩ | ⟨rfl, p⟩
  · rw [if_pos (Or.inr rfl)]
    exact xs_yn.y p
  · rw [if_pos (Or.inl rfl)]
    exact xs_yn.n p
theorem xs_rIsStep (j : xs_JR A k h) (hs : A.sz) {f : Nat} (hf : f < A.nF) (x o t : Int32) : xs_yn h (mX6_isStep 351 (nI f) x o t h) (xs_okS A f x o t) := by
  have h8 := hs.2.1
  have h4 := hs.1
  have h12 := hs.2.2 f hf
  have g7 : h (351 + 1) f = nI (A.sc f) := j.1.2.2.1 f (by omega)
  unfold mX6_isStep
  by_cases e0 : x = 0
  · subst e0
    rw [if_pos rfl, xs_ok0]
    obtain ⟨b, e, hb⟩ := xs_rYC j h4 o
    rw [e, Option.bind_some]
    dsimp only
    rcases hb with ⟨rfl, p⟩ | ⟨rfl, p⟩
    · rw [if_neg (by decide)]
      obtain ⟨b, e, hb⟩ := xs_rYB (h := h) t (-999) 999
      rw [e, Option.bind_some]
      dsimp only
      rcases hb with ⟨rfl, q⟩ | ⟨rfl, q⟩
      · rw [if_neg (by decide)]
        exact xs_yn.y ⟨p, q.1, q.2⟩
      · rw [if_pos rfl]
        exact xs_yn.n (fun z => q z.2)
    · rw [if_pos rfl]
      exact xs_yn.n (fun z => p z.1)
  rw [if_neg e0]
  by_cases e1 : x = 1
  · subst e1
    rw [if_pos rfl, xs_ok1]
    exact xs_r72c j h4 o
  rw [if_neg e1]
  by_cases e2 : x = 2
  · subst e2
    rw [if_pos rfl, xs_ok2]
    obtain ⟨b, e, hb⟩ := xs_rYB (h := h) o 1 20
    rw [e, Option.bind_some]
    dsimp only
    rcases hb with ⟨rfl, q⟩ | ⟨rfl, q⟩
    · rw [if_pos (Or.inr rfl)]
      exact xs_yn.y q
    · rw [if_pos (Or.inl rfl)]
      exact xs_yn.n q
  rw [if_neg e2]
  by_cases e3 : x = 3
  · subst e3
    rw [if_pos rfl, xs_ok3]
    unfold mX6_isStep_b136
    rw [if_pos rfl]
    exact xs_yn.y trivial
  rw [if_neg e3]
  by_cases e4 : x = 4
  · subst e4
    rw [if_pos rfl, xs_ok4]
    obtain ⟨b, e, hb⟩ := xs_rYF j h8 o
    rw [e, Option.bind_some]
    dsimp only
    rcases hb with ⟨rfl, p⟩ | ⟨rfl, p⟩
    · rw [if_neg (by decide)]
      by_cases t1 : o = nI f
      · rw [if_pos t1]
        exact xs_yn.n (fun z => z.2 t1)
      · rw [if_neg t1]
        exact xs_yn.y ⟨p, t1⟩
    · rw [if_pos rfl]
      exact xs_yn.n (fun z => p z.1)
  rw [if_neg e4]
  by_cases e5 : x = 5
  · subst e5
    rw [if_pos rfl, xs_ok5, if_pos (xs_ix (i := f) (by omega) (by decide)), nI_clamp (n := f) (by omega), g7]
    have hq : (¬ o < 0 ∧ ¬ nI (A.sc f) < o) ↔ ∃ q, q ≤ A.sc f ∧ o = nI q := by
      constructor
      · rintro ⟨z1, z2⟩
        obtain ⟨i, hi, rfl⟩ := nI_of z1
        refine ⟨i, Nat.le_of_not_lt (fun z => z2 (nI_lt z hi)), rfl⟩
      · rintro ⟨q, hq, rfl⟩
        exact ⟨nI_pos (by omega), nI_nlt hq (by omega)⟩
    obtain ⟨b, e, hb⟩ := xs_rYB (h := h) o 0 (nI (A.sc f))
    rw [e, Option.bind_some]
    dsimp only
    rcases hb with ⟨rfl, p⟩ | ⟨rfl, p⟩
    · rw [if_neg (by decide)]
      obtain ⟨b, e, hb⟩ := xs_rYB (h := h) t 1 9
      rw [e, Option.bind_some]
      dsimp only
      rcases hb with ⟨rfl, q⟩ | ⟨rfl, q⟩
      · rw [if_neg (by decide)]
        exact xs_yn.y ⟨hq.mp p, q⟩
      · rw [if_pos rfl]
        exact xs_yn.n (fun z => q z.2)
    · rw [if_pos rfl]
      exact xs_yn.n (fun z => p (hq.mpr z.1))
  rw [if_neg e5]
  by_cases e6 : x = 6
  · subst e6
    rw [if_pos rfl, xs_ok6]
    exact xs_r72c j h4 o
  · rw [if_neg e6]
    unfold mX6_isStep_b136
    rw [if_neg e3]
    exact xs_yn.n (xs_okN e0 e1 e2 e3 e4 e5 e6)
theorem xs_r_addStep (j : xs_JR A k h) (w : xs_W A 99) (fa : xs_fresh A) {f : Nat} (hf : f < A.nF) {x o t : Int32} (ok : xs_okS A f x o t) (hc : A.sc f < 12) : xs_rS h (mX6_addStep 351 (nI f) x o t h) (nI (A.sc f)) 0 (A.grown f x o t) k := by
  have h8 := w.1.2.1
  unfold mX6_addStep xo_let
  dsimp only
  have j1 := j.t0 w.1 0
  have t1 : xw_st h 351 0 0 351 0 = 0 := xw_stE
  have c1 := xs_t0c (h := h) (t := 0)
  generalize xw_st h 351 0 0 = h1 at j1 t1 c1 ⊢
  rw [xs_rF1 j1 h8 hf, Option.bind_some, show ((h1, (1 : Int32)) : xw_M × Int32).1 = h1 from rfl, show ((h1, (1 : Int32)) : xw_M × Int32).2 = 1 from rfl]
  obtain ⟨b, eb, hb⟩ := xs_rIsStep j1 w.1 hf x o t
  have hb1 : b = 1 := hb.elim (fun z => z.1) (fun z => absurd ok z.2)
  subst hb1
  obtain ⟨K, S, R⟩ := j1
  have g7 : h1 (351 + 1) f = nI (A.sc f) := K.2.2.1 f (by omega)
  have em : (12 : Int32) * nI f + nI (A.sc f) = nI (12 * f + A.sc f) := by
    rw [show (12 : Int32) * nI f = nI (12 * f) from (Int32.ofNat_mul 12 f).symm, nI_add]
  rw [if_neg (by decide), eb, Option.bind_some, show ((h1, (1 : Int32)) : xw_M × Int32).1 = h1 from rfl, show ((h1, (1 : Int32)) : xw_M × Int32).2 = 1 from rfl]
  rw [if_neg (by decide), if_pos (xs_ix (i := f) (by omega) (by decide)), nI_clamp (n := f) (by omega), if_neg (fun z => by
    have := (nI_eq (by omega) (by omega)).mp ((g7.symm.trans z).trans xs_e12)
    omega), if_pos (xs_ix (i := f) (by omega) (by decide)), g7, em, if_pos (xs_ix (i := 12 * f + A.sc f) (by omega) (by decide)), if_pos (xs_ix (i := 12 * f + A.sc f) (by omega) (by decide)), if_pos (xs_ix (i := 12 * f + A.sc f) (by omega) (by decide)), if_pos (xs_ix (i := f) (by omega) (by decide)), if_pos (xs_ix (i := f) (by omega) (by decide)), nI_clamp (n := 12 * f + A.sc f) (by omega)]
  have e7 : xw_st (xw_st (xw_st h1 (351 + 2) (12 * f + A.sc f) x) (351 + 3) (12 * f + A.sc f) o) (351 + 4) (12 * f + A.sc f) t (351 + 1) f = nI (A.sc f) := by
    rw [xw_st_ne _ _ _ _ (by decide), xw_st_ne _ _ _ _ (by decide), xw_st_ne _ _ _ _ (by decide)]
    exact g7
  rw [e7, nI_1]
  obtain ⟨w1, f1⟩ := w.addS fa hf hc ok
  have K1 : xs_K (xw_st (xw_st (xw_st (xw_st h1 (351 + 2) (12 * f + A.sc f) x) (351 + 3) (12 * f + A.sc f) o) (351 + 4) (12 * f + A.sc f) t) (351 + 1) f (nI (A.sc f + 1))) (A.addS f x o t) := by
    refine ⟨?_, ?_, fun g hg => ?_, fun g i hg hi => ?_⟩
    · rw [xw_st_ne _ _ _ _ (by decide), xw_st_ne _ _ _ _ (by decide), xw_st_ne _ _ _ _ (by decide), xw_st_ne _ _ _ _ (by decide)]; exact K.1
    · rw [xw_st_ne _ _ _ _ (by decide), xw_st_ne _ _ _ _ (by decide), xw_st_ne _ _ _ _ (by decide), xw_st_ne _ _ _ _ (by decide)]; exact K.2.1
    · show _ = nI (if g = f then A.sc f + 1 else A.sc g)
      rw [show (351 + 1 : Nat) = 352 from rfl, xs_stf]
      by_cases e : g = f
      · rw [if_pos e, if_pos e]
      · rw [if_neg e, if_neg e, xw_st_ne _ _ _ _ (by decide), xw_st_ne _ _ _ _ (by decide), xw_st_ne _ _ _ _ (by decide)]
        exact K.2.2.1 g hg
    · have hg : g < A.nF := hg
      have hi : i < (if g = f then A.sc f + 1 else A.sc g) := hi
      show _ = (if g = f ∧ i = A.sc f then x else A.kd g i) ∧ _ = (if g = f ∧ i = A.sc f then o else A.on g i) ∧ _ = (if g = f ∧ i = A.sc f then t else A.tw g i)
      have e3 : xw_st (xw_st (xw_st (xw_st h1 (351 + 2) (12 * f + A.sc f) x) (351 + 3) (12 * f + A.sc f) o) (351 + 4) (12 * f + A.sc f) t) (351 + 1) f (nI (A.sc f + 1)) 353 (12 * g + i) = if 12 * g + i = 12 * f + A.sc f then x else h1 353 (12 * g + i) := by
        rw [xw_st_ne _ _ _ _ (by decide), xw_st_ne _ _ _ _ (by decide), xw_st_ne _ _ _ _ (by decide), show (351 + 2 : Nat) = 353 from rfl, xs_stf]
      have e4 : xw_st (xw_st (xw_st (xw_st h1 (351 + 2) (12 * f + A.sc f) x) (351 + 3) (12 * f + A.sc f) o) (351 + 4) (12 * f + A.sc f) t) (351 + 1) f (nI (A.sc f + 1)) 354 (12 * g + i) = if 12 * g + i = 12 * f + A.sc f then o else h1 354 (12 * g + i) := by
        rw [xw_st_ne _ _ _ _ (by decide), xw_st_ne _ _ _ _ (by decide), show (351 + 3 : Nat) = 354 from rfl, xs_stf, xw_st_ne _ _ _ _ (by decide)]
      have e5 : xw_st (xw_st (xw_st (xw_st h1 (351 + 2) (12 * f + A.sc f) x) (351 + 3) (12 * f + A.sc f) o) (351 + 4) (12 * f + A.sc f) t) (351 + 1) f (nI (A.sc f + 1)) 355 (12 * g + i) = if 12 * g + i = 12 * f + A.sc f then t else h1 355 (12 * g + i) := by
        rw [xw_st_ne _ _ _ _ (by decide), show (351 + 4 : Nat) = 355 from rfl, xs_stf, xw_st_ne _ _ _ _ (by decide), xw_st_ne _ _ _ _ (by decide)]
      rw [e3, e4, e5]
      by_cases e : g = f ∧ i = A.sc f
      · rw [if_pos e, if_pos e, if_pos e, if_pos (by rw [e.1, e.2]), if_pos (by rw [e.1, e.2]), if_pos (by rw [e.1, e.2])]
        exact ⟨rfl, rfl, rfl⟩
      · have hi2 : i < A.sc g := by
          by_cases e2 : g = f
          · rw [if_pos e2] at hi
            have : i ≠ A.sc f := fun z => e ⟨e2, z⟩
            rw [e2]
            omega
          · rw [if_neg e2] at hi
            exact hi
        have h12 := w.1.2.2 g hg
        have hne : ¬ 12 * g + i = 12 * f + A.sc f := by
          intro z
          by_cases e2 : g = f
          · subst e2
            omega
          · omega
        rw [if_neg e, if_neg e, if_neg e, if_neg hne, if_neg hne, if_neg hne]
        exact K.2.2.2 g i hg hi2
  have oo : ∀ c, c < 352 ∨ 355 < c → xw_st (xw_st (xw_st (xw_st h1 (351 + 2) (12 * f + A.sc f) x) (351 + 3) (12 * f + A.sc f) o) (351 + 4) (12 * f + A.sc f) t) (351 + 1) f (nI (A.sc f + 1)) c = h1 c := fun c hc => by
    rw [xw_st_ne _ _ _ _ (by omega), xw_st_ne _ _ _ _ (by omega), xw_st_ne _ _ _ _ (by omega), xw_st_ne _ _ _ _ (by omega)]
  generalize xw_st (xw_st (xw_st (xw_st h1 (351 + 2) (12 * f + A.sc f) x) (351 + 3) (12 * f + A.sc f) o) (351 + 4) (12 * f + A.sc f) t) (351 + 1) f (nI (A.sc f + 1)) = h2 at K1 oo ⊢
  have R1 : xs_R (h2 356) (A.addS f x o t) S k := by
    rw [oo 356 (by omega)]
    exact R.size rfl rfl rfl (fun n hn => hn)
  have g1 : h2 (351 + 5) (12 + f) = A.a 1 f := R1.getF (t := 1) (by omega) hf
  have es : (A.addS f x o t).sc f = A.sc f + 1 := if_pos rfl
  rw [xs_i 12 (by decide), if_pos (xs_ix (i := 12 + f) (by omega) (by decide)), nI_clamp (n := 12 + f) (by omega)]
  unfold xs_A.grown
  by_cases e : A.a 1 f = 5
  · rw [if_pos (g1.trans e), if_pos e]
    obtain ⟨h3, e3, K3, R3, o3⟩ := xs_rReady K1 R1 w1.1 (f := f) hf (w1.lineRoom hf (by show A.a 1 f ≠ 0; rw [e]; decide))
    have g3 : h3 (351 + 1) f = nI (A.sc f + 1) := by
      rw [← es]
      exact K3.2.2.1 f (by omega)
    rw [e3, Option.bind_some]
    dsimp only
    rw [if_pos (xs_ix (i := f) (by omega) (by decide)), g3, nI_pred]
    refine ⟨h3, rfl, ⟨K3, S, R3⟩, ?_, fun c hc => ?_⟩
    · rw [o3 351 (by decide), oo 351 (by omega)]; exact t1
    · rw [o3 c (by show ¬ c = 356; omega), oo c (by omega)]; exact c1 c hc
  · have g3 : h2 (351 + 1) f = nI (A.sc f + 1) := by
      rw [← es]
      exact K1.2.2.1 f (by omega)
    rw [if_neg (fun z => e (g1.symm.trans z)), if_neg e, if_pos (xs_ix (i := f) (by omega) (by decide)), g3, nI_pred]
    refine ⟨h2, rfl, ⟨K1, S, R1⟩, ?_, fun c hc => ?_⟩
    · rw [oo 351 (by omega)]; exact t1
    · rw [oo c (by omega)]; exact c1 c hc
theorem xs_r0_addStep (j : xs_JR A k h) (hs : A.sz) {y x o t : Int32} (hx : ∀ f, f < A.nF → y ≠ nI f) : xs_rS h (mX6_addStep 351 y x o t h) 0 1 A k := by
  unfold mX6_addStep xo_let
  dsimp only
  have j1 := j.t0 hs 0
  rw [xs_rF0 j1 hs.2.1 hx, Option.bind_some]
  dsimp only
  rw [if_pos rfl]
  exact ((xs_rNo j1 hs).bnd).pre xs_t0c
theorem xs_r1_addStep (j : xs_JR A k h) (hs : A.sz) {f : Nat} (hf : f < A.nF) {x o t : Int32} (ok : ¬ xs_okS A f x o t) : xs_rS h (mX6_addStep 351 (nI f) x o t h) 0 2 A k := by
  unfold mX6_addStep xo_let
  dsimp only
  have j1 := j.t0 hs 0
  rw [xs_rF1 j1 hs.2.1 hf, Option.bind_some]
  dsimp only
  obtain ⟨b, eb, hb⟩ := xs_rIsStep j1 hs hf x o t
  have hb1 : b = 0 := hb.elim (fun z => absurd z.2 ok) (fun z => z.1)
  subst hb1
  rw [if_neg (by decide), eb, Option.bind_some]
  dsimp only
  rw [if_pos rfl]
  exact ((xs_rNo j1 hs).bnd).pre xs_t0c
theorem xs_r2_addStep (j : xs_JR A k h) (hs : A.sz) {f : Nat} (hf : f < A.nF) {x o t : Int32} (ok : xs_okS A f x o t) (hc : ¬ A.sc f < 12) : xs_rS h (mX6_addStep 351 (nI f) x o t h) 0 3 A k := by
  have h8 := hs.2.1
  have h12 := hs.2.2 f hf
  unfold mX6_addStep xo_let
  dsimp only
  have j1 := j.t0 hs 0
  rw [xs_rF1 j1 hs.2.1 hf, Option.bind_some]
  dsimp only
  obtain ⟨b, eb, hb⟩ := xs_rIsStep j1 hs hf x o t
  have hb1 : b = 1 := hb.elim (fun z => z.1) (fun z => absurd ok z.2)
  subst hb1
  have g7 : xw_st h 351 0 0 (351 + 1) f = nI (A.sc f) := j1.1.2.2.1 f (by omega)
  rw [if_neg (by decide), eb, Option.bind_some]
  dsimp only
  rw [if_neg (by decide), if_pos (xs_ix (i := f) (by omega) (by decide)), nI_clamp (n := f) (by omega), if_pos (by rw [g7, show A.sc f = 12 by omega]; decide)]
  exact ((xs_rNo j1 hs).bnd).pre xs_t0c
/-! a drop by hand; turns go by -/
theorem xs_r_pour (j : xs_JR A k h) (w : xs_W A 99) (hk : k < 2 ^ 31) {c : Nat} (hc : c < A.nC) {v : Int32} (hv : ¬ v < -999 ∧ ¬ 999 < v) (hn : ¬ A.a 8 c ≤ nI (A.ls (1 + c)).length) : xs_rS h (mX6_pour 351 (nI c) v h) (nI ((A.put c v).ls (1 + c)).length) 0 (A.put c v) k := by
  have h4 := w.1.1
  unfold mX6_pour xo_let
  dsimp only
  have j1 := j.t0 w.1 0
  have t1 : xw_st h 351 0 0 351 0 = 0 := xw_stE
  have c1 := xs_t0c (h := h) (t := 0)
  generalize xw_st h 351 0 0 = h1 at j1 t1 c1 ⊢
  rw [xs_rC1 j1 h4 hc, Option.bind_some]
  dsimp only
  obtain ⟨b, eb, hb⟩ := xs_rYB (h := h1) v (-999) 999
  have hb1 : b = 1 := hb.elim (fun z => z.1) (fun z => absurd hv z.2)
  subst hb1
  obtain ⟨K, S, R⟩ := j1
  obtain ⟨p, p1, p2, p3, p4⟩ := w.pw hc
  have q := (R.2.1 (1 + c) (Or.inr ⟨by omega, by omega⟩)).2.1
  have emn : xs_mn (1 + c) = 168 + c := by unfold xs_mn; rw [if_neg (by omega)]; omega
  rw [emn] at q
  have q : h1 (351 + 5) (168 + c) = nI (A.ls (1 + c)).length := q
  have g8 : h1 (351 + 5) (164 + c) = nI p := (R.1 8 c (Or.inr (Or.inl ⟨rfl, by omega⟩))).trans p3
  rw [if_neg (by decide), eb, Option.bind_some]
  dsimp only
  rw [if_neg (by decide), xs_i 168 (by decide), if_pos (xs_ix (i := 168 + c) (by omega) (by decide)), xs_i 164 (by decide), if_pos (xs_ix (i := 164 + c) (by omega) (by decide)), nI_clamp (n := 168 + c) (by omega), nI_clamp (n := 164 + c) (by omega), if_neg (fun z => hn (by
    have e := q.symm.trans (z.trans g8)
    rw [p3, e]
    exact Int32.le_refl _))]
  obtain ⟨h2, e2, K2, R2, o2⟩ := xs_rSend K R w hk hc v hn (w.lineW (xs_fL hc).2 (by omega))
  have ss := xs_ss_put (A := A) (c := c) (v := v)
  have q2 := (R2.2.1 (1 + c) (Or.inr ⟨by omega, by omega⟩)).2.1
  rw [emn] at q2
  have q2 : h2 (351 + 5) (168 + c) = nI ((A.put c v).ls (1 + c)).length := q2
  rw [e2, Option.bind_some]
  dsimp only
  rw [if_pos (xs_ix (i := 168 + c) (by omega) (by decide)), q2]
  refine ⟨h2, rfl, ⟨K2, S, R2⟩, ?_, fun c hc => ?_⟩
  · rw [o2 351 (by decide)]; exact t1
  · rw [o2 c (by show ¬ c = 356; omega)]; exact c1 c hc
theorem xs_r0_pour (j : xs_JR A k h) (hs : A.sz) {y v : Int32} (hx : ∀ f, f < A.nC → y ≠ nI f) : xs_rS h (mX6_pour 351 y v h) 0 1 A k := by
  unfold mX6_pour xo_let
  dsimp only
  have j1 := j.t0 hs 0
  rw [xs_rC0 j1 hs.1 hx, Option.bind_some]
  dsimp only
  rw [if_pos rfl]
  exact ((xs_rNo j1 hs).bnd).pre xs_t0c
theorem xs_r1_pour (j : xs_JR A k h) (hs : A.sz) {c : Nat} (hc : c < A.nC) {v : Int32} (hv : ¬ (¬ v < -999 ∧ ¬ 999 < v)) : xs_rS h (mX6_pour 351 (nI c) v h) 0 2 A k := by
  unfold mX6_pour xo_let
  dsimp only
  have j1 := j.t0 hs 0
  rw [xs_rC1 j1 hs.1 hc, Option.bind_some]
  dsimp only
  obtain ⟨b, eb, hb⟩ := xs_rYB (h := xw_st h 351 0 0) v (-999) 999
  have hb1 : b = 0 := hb.elim (fun z => absurd z.2 hv) (fun z => z.1)
  subst hb1
  rw [if_neg (by decide), eb, Option.bind_some]
  dsimp only
  rw [if_pos rfl]
  exact ((xs_rNo j1 hs).bnd).pre xs_t0c
theorem xs_r2_pour (j : xs_JR A k h) (w : xs_W A 99) {c : Nat} (hc : c < A.nC) {v : Int32} (hv : ¬ v < -999 ∧ ¬ 999 < v) (hn : A.a 8 c ≤ nI (A.ls (1 + c)).length) : xs_rS h (mX6_pour 351 (nI c) v h) 0 3 A k := by
  have h4 := w.1.1
  unfold mX6_pour xo_let
  dsimp only
  have j1 := j.t0 w.1 0
  rw [xs_rC1 j1 h4 hc, Option.bind_some]
  dsimp only
  obtain ⟨b, eb, hb⟩ := xs_rYB (h := xw_st h 351 0 0) v (-999) 999
  have hb1 : b = 1 := hb.elim (fun z => z.1) (fun z => absurd hv z.2)
  subst hb1
  obtain ⟨p, p1, p2, p3, p4⟩ := w.pw hc
  have q : xw_st h 351 0 0 (351 + 5) (168 + c) = nI (A.ls (1 + c)).length := by
    obtain ⟨K, S, R⟩ := j1
    have q := (R.2.1 (1 + c) (Or.inr ⟨by omega, by omega⟩)).2.1
    have emn : xs_mn (1 + c) = 168 + c := by unfold xs_mn; rw [if_neg (by omega)]; omega
    rw [emn] at q
    exact q
  have g8 : xw_st h 351 0 0 (351 + 5) (164 + c) = nI p := by
    obtain ⟨K, S, R⟩ := j1
    exact (R.1 8 c (Or.inr (Or.inl ⟨rfl, by omega⟩))).trans p3
  rw [p3] at hn
  have hle : p ≤ (A.ls (1 + c)).length := (nI_leI (by omega) (by omega)).mp hn
  rw [if_neg (by decide), eb, Option.bind_some]
  dsimp only
  rw [if_neg (by decide), xs_i 168 (by decide), if_pos (xs_ix (i := 168 + c) (by omega) (by decide)), xs_i 164 (by decide), if_pos (xs_ix (i := 164 + c) (by omega) (by decide)), nI_clamp (n := 168 + c) (by omega), nI_clamp (n := 164 + c) (by omega), if_pos (by rw [q, g8, show (A.ls (1 + c)).length = p by omega])]
  exact ((xs_rNo j1 w.1).bnd).pre xs_t0c
theorem xs_r_run (j : xs_JR A k h) (w : xs_W A 99) {t : Nat} (ht1 : 1 ≤ t) (ht2 : t ≤ 60) (hk : k + 60 < 2 ^ 31) : ∃ k', k' ≤ k + 60 ∧ xs_rS h (mX6_run 351 (nI t) h) ((A.turns t).a 10 0 - A.a 10 0) 0 (A.turns t) k' := by
  unfold mX6_run xo_let
  dsimp only
  have j1 := j.t0 w.1 0
  have t1 : xw_st h 351 0 0 351 0 = 0 := xw_stE
  have c1 := xs_t0c (h := h) (t := 0)
  generalize xw_st h 351 0 0 = h1 at j1 t1 c1 ⊢
  have g10 : h1 (351 + 5) 1 = A.a 10 0 := by
    obtain ⟨K, S, R⟩ := j1
    exact R.1 10 0 (Or.inr (Or.inr (Or.inr (Or.inl ⟨rfl, rfl⟩))))
  rw [xs_rT1 ht1 ht2, Option.bind_some]
  dsimp only
  rw [if_neg (by decide), show Int32.toNatClampNeg 1 = 1 from by decide, g10]
  obtain ⟨h3, k3, e3, j3, o3, q3⟩ := xs_rRun (a2 := A.a 10 0) t 0 xo_n h1 A k j1 w (by omega) (by show t < 300; omega) (by omega)
  rw [Nat.zero_add] at e3
  refine ⟨k3, by omega, h3, e3, j3, ?_, fun c hc => ?_⟩
  · rw [o3 351 (by decide)]; exact t1
  · rw [o3 c (by show ¬ c = 356; omega)]; exact c1 c hc
theorem xs_r1_run (j : xs_JR A k h) (hs : A.sz) {x : Int32} (hx : ∀ t, 1 ≤ t → t ≤ 60 → x ≠ nI t) : xs_rS h (mX6_run 351 x h) 0 1 A k := by
  unfold mX6_run xo_let
  dsimp only
  have j1 := j.t0 hs 0
  rw [xs_rT0 hx, Option.bind_some]
  dsimp only
  rw [if_pos rfl]
  exact ((xs_rNo j1 hs).bnd).pre xs_t0c
end AI
