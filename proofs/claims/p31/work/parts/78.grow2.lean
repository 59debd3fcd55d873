theorem xs_W.lineRoom {A : xs_A} (w : xs_W A 99) {i : Nat} (hi : i < A.nF) (h0 : A.a 1 i ≠ 0) : (A.ls 0).length < 8 := (w.2.2.2.2.2 0 (Or.inl rfl)).1.lt w.1 hi (fun z => by
  have := ((w.2.2.2.2.2 0 (Or.inl rfl)).2 i hi).mp z
  unfold xs_A.at at this
  rw [if_pos rfl] at this
  exact h0 this.1)
section AH
variable {h : xw_M} {A : xs_A} {k : Nat}
theorem xs_c_addStep (j : xs_JC A h) (w : xs_W A 99) (fa : xs_fresh A) {f : Nat} (hf : f < A.nF) {x o t : Int32} (ok : xs_okS A f x o t) (hc : A.sc f < 12) : xs_cS h (mX5_addStep 350 (nI f) x o t h) (nI (A.sc f), 0) (A.grown f x o t) := by
  have h8 := w.1.2.1
  obtain ⟨b, eb, hb⟩ := xs_cIsStep j.1 hf (w.1.2.2 f hf) x o t
  have hb1 : b = 1 := hb.elim (fun z => z.1) (fun z => absurd ok z.2)
  subst hb1
  have g7 := j.1.cnt f (by omega)
  unfold mX5_addStep
  rw [xs_ckF1 j.1 hf, Option.bind_some, xs_th0, eb, Option.bind_some]
  dsimp only
  rw [if_neg (by decide), xs_fiberAt (by omega), Option.bind_some]
  dsimp only
  rw [if_pos (by rw [g7, xs_e12]; exact nI_lt hc (by omega)), g7, xs_stepAt hc, Option.bind_some]
  unfold mX4_describe xo_let
  dsimp only
  rw [Option.bind_some]
  dsimp only
  rw [show 0 + 40 + 15 * f + 2 + A.sc f = 0 + 42 + 15 * f + A.sc f by omega]
  have e7 : xw_st (xw_st (xw_st h (0 + 42 + 15 * f + A.sc f) 0 x) (0 + 42 + 15 * f + A.sc f) 1 o) (0 + 42 + 15 * f + A.sc f) 2 t (0 + 40 + 15 * f) 7 = nI (A.sc f) := by
    rw [xw_st_ne _ _ _ _ (by omega), xw_st_ne _ _ _ _ (by omega), xw_st_ne _ _ _ _ (by omega)]
    exact g7
  have C1 := j.1.addS w.1 hf hc x o t
  have eM : xw_st (xw_st (xw_st (xw_st h (0 + 42 + 15 * f + A.sc f) 0 x) (0 + 42 + 15 * f + A.sc f) 1 o) (0 + 42 + 15 * f + A.sc f) 2 t) (0 + 40 + 15 * f) 7 (xw_st (xw_st (xw_st h (0 + 42 + 15 * f + A.sc f) 0 x) (0 + 42 + 15 * f + A.sc f) 1 o) (0 + 42 + 15 * f + A.sc f) 2 t (0 + 40 + 15 * f) 7 + 1) = xw_st (xw_st (xw_st (xw_st h (0 + 42 + 15 * f + A.sc f) 0 x) (0 + 42 + 15 * f + A.sc f) 1 o) (0 + 42 + 15 * f + A.sc f) 2 t) (0 + 40 + 15 * f) 7 (nI (A.sc f + 1)) := by rw [e7, nI_1]
  rw [← eM] at C1
  have oo : xs_off (xs_rg 0) h (xw_st (xw_st (xw_st (xw_st h (0 + 42 + 15 * f + A.sc f) 0 x) (0 + 42 + 15 * f + A.sc f) 1 o) (0 + 42 + 15 * f + A.sc f) 2 t) (0 + 40 + 15 * f) 7 (xw_st (xw_st (xw_st h (0 + 42 + 15 * f + A.sc f) 0 x) (0 + 42 + 15 * f + A.sc f) 1 o) (0 + 42 + 15 * f + A.sc f) 2 t (0 + 40 + 15 * f) 7 + 1)) :=
    (((xs_off.st (by unfold xs_rg; omega)).tr (xs_off.st (by unfold xs_rg; omega))).tr (xs_off.st (by unfold xs_rg; omega))).tr (xs_off.st (by unfold xs_rg; omega))
  obtain ⟨w1, f1⟩ := w.addS fa hf hc ok
  have gr : xs_Tr (xw_st (xw_st (xw_st (xw_st h (0 + 42 + 15 * f + A.sc f) 0 x) (0 + 42 + 15 * f + A.sc f) 1 o) (0 + 42 + 15 * f + A.sc f) 2 t) (0 + 40 + 15 * f) 7 (xw_st (xw_st (xw_st h (0 + 42 + 15 * f + A.sc f) 0 x) (0 + 42 + 15 * f + A.sc f) 1 o) (0 + 42 + 15 * f + A.sc f) 2 t (0 + 40 + 15 * f) 7 + 1)) (A.addS f x o t) := (j.2.off oo (fun c hc => xs_rgs2 hc)).grow (Nat.le_refl _) (Nat.le_refl _) (fun g hg => by
    show A.sc g ≤ (if g = f then A.sc f + 1 else A.sc g)
    split
    · rename_i e; rw [e]; omega
    · exact Nat.le_refl _)
  have g1 : xw_st (xw_st (xw_st (xw_st h (0 + 42 + 15 * f + A.sc f) 0 x) (0 + 42 + 15 * f + A.sc f) 1 o) (0 + 42 + 15 * f + A.sc f) 2 t) (0 + 40 + 15 * f) 7 (xw_st (xw_st (xw_st h (0 + 42 + 15 * f + A.sc f) 0 x) (0 + 42 + 15 * f + A.sc f) 1 o) (0 + 42 + 15 * f + A.sc f) 2 t (0 + 40 + 15 * f) 7 + 1) (0 + 40 + 15 * f) 1 = A.a 1 f := C1.getF (A := A.addS f x o t) (t := 1) (by omega) hf
  unfold xs_A.grown
  by_cases e : A.a 1 f = 5
  · rw [if_pos (g1.trans e), if_pos e]
    obtain ⟨h2, e2, C2, o2⟩ := xs_ready C1 w1.1 (f := f) hf (w1.lineRoom hf (by show A.a 1 f ≠ 0; rw [e]; decide))
    rw [e2, Option.bind_some]
    exact ⟨h2, rfl, ⟨C2, (gr.off o2 (fun c hc => xs_rgs2 hc)).grow (Nat.le_refl _) (Nat.le_refl _) (fun _ _ => Nat.le_refl _)⟩, xs_o350 (oo.tr o2)⟩
  · rw [if_neg (fun z => e (g1.symm.trans z)), if_neg e]
    exact ⟨_, rfl, ⟨C1, gr⟩, xs_o350 oo⟩
theorem xs_c0_addStep (j : xs_JC A h) {y x o t : Int32} (hx : ∀ f, f < A.nF → y ≠ nI f) : mX5_addStep 350 y x o t h = some (h, 0, 3) := by
  unfold mX5_addStep
  rw [xs_ckF0 j.1 hx, Option.bind_some, xs_th3]
theorem xs_c1_addStep (j : xs_JC A h) (w : xs_W A 99) {f : Nat} (hf : f < A.nF) {x o t : Int32} (ok : ¬ xs_okS A f x o t) : mX5_addStep 350 (nI f) x o t h = some (h, 0, 1) := by
  obtain ⟨b, eb, hb⟩ := xs_cIsStep j.1 hf (w.1.2.2 f hf) x o t
  have hb1 : b = 0 := hb.elim (fun z => absurd z.2 ok) (fun z => z.1)
  subst hb1
  unfold mX5_addStep
  rw [xs_ckF1 j.1 hf, Option.bind_some, xs_th0, eb, Option.bind_some]
  exact if_pos rfl
theorem xs_c2_addStep (j : xs_JC A h) (w : xs_W A 99) {f : Nat} (hf : f < A.nF) {x o t : Int32} (ok : xs_okS A f x o t) (hc : ¬ A.sc f < 12) : mX5_addStep 350 (nI f) x o t h = some (h, 0, 2) := by
  have h8 := w.1.2.1
  have h12 := w.1.2.2 f hf
  obtain ⟨b, eb, hb⟩ := xs_cIsStep j.1 hf (w.1.2.2 f hf) x o t
  have hb1 : b = 1 := hb.elim (fun z => z.1) (fun z => absurd ok z.2)
  subst hb1
  have g7 := j.1.cnt f (by omega)
  unfold mX5_addStep
  rw [xs_ckF1 j.1 hf, Option.bind_some, xs_th0, eb, Option.bind_some]
  dsimp only
  rw [if_neg (by decide), xs_fiberAt (by omega), Option.bind_some]
  exact if_neg (by
    show ¬ h (0 + 40 + 15 * f) 7 < 12
    rw [g7, xs_e12]
    exact nI_nlt (by omega) (by omega))
theorem xs_W.grown (w : xs_W A 99) (fa : xs_fresh A) {f : Nat} (hf : f < A.nF) {x o t : Int32} (ok : xs_okS A f x o t) (hc : A.sc f < 12) : xs_W (A.grown f x o t) 99 ∧ xs_fresh (A.grown f x o t) := by
  have h8 := w.1.2.1
  obtain ⟨w1, f1⟩ := w.addS fa hf hc ok
  unfold xs_A.grown
  by_cases e : A.a 1 f = 5
  · rw [if_pos e]
    exact ⟨w1.ready (f := f) hf (by omega) (by show A.a 1 f ≠ 0 ∧ A.a 1 f ≠ 1 ∧ A.a 1 f ≠ 2; rw [e]; decide), f1.fr (xs_fr.rf.ready (r := f) hf) w1.1⟩
  · rw [if_neg e]
    exact ⟨w1, f1⟩
/-! a drop by hand -/
theorem xs_cYV {v : Int32} : xs_yn h (mX5_isValue 350 v h) (¬ v < -999 ∧ ¬ 999 < v) := by
  unfold mX5_isValue
  by_cases t1 : v < -999
  · rw [if_pos t1]
    exact xs_yn.n (fun z => z.1 t1)
  · by_cases t2 : 999 < v
    · rw [if_neg t1, if_pos t2]
      exact xs_yn.n (fun z => z.2 t2)
    · rw [if_neg t1, if_neg t2]
      exact xs_yn.y ⟨t1, t2⟩
theorem xs_W.lineW (w : xs_W A 99) {n : Nat} (hn : A.fL n) (h0 : n ≠ 0) : A.ls n ≠ [] → (A.ls 0).length < 8 := by
  intro he
  cases hl : A.ls n with
  | nil => exact absurd hl he
  | cons x l =>
    obtain ⟨g, hg, rfl⟩ := w.fibs hn x (by rw [hl]; exact List.mem_cons_self)
    have hat := ((w.2.2.2.2.2 n hn).2 g hg).mp (by rw [hl]; exact List.mem_cons_self)
    refine w.lineRoom hg (fun z => ?_)
    rcases xs_at_st hat with ⟨z1, _⟩ | ⟨_, z2⟩
    · exact h0 z1
    · rw [z] at z2; exact absurd z2 (by decide)
theorem xs_W.putQ (w : xs_W A 99) (fa : xs_fresh A) {c : Nat} (hc : c < A.nC) {v : Int32} (hn : ¬ A.a 8 c ≤ nI (A.ls (1 + c)).length) : xs_W (A.put c v) 99 ∧ xs_fresh (A.put c v) ∧ xs_fr A (A.put c v) := by
  have h8 := w.1.2.1
  have f1 : xs_fr A (A.put c v) := by
    refine xs_fr.wake (xs_fr.rf.setL (xs_bLc hc).1) w.1.2.1 (xs_bLc hc).2.2 (fun x hx => ?_)
    rw [xs_setL_ne (by have := w.1.1; omega)] at hx
    exact w.fibs (xs_fL hc).2 x hx
  exact ⟨w.put (fun g hg e => absurd e (by omega)) hc hn, fa.fr f1 w.1, f1⟩
theorem xs_c_pour (j : xs_JC A h) (w : xs_W A 99) (fa : xs_fresh A) {c : Nat} (hc : c < A.nC) {v : Int32} (hv : ¬ v < -999 ∧ ¬ 999 < v) (hn : ¬ A.a 8 c ≤ nI (A.ls (1 + c)).length) : xs_cS h (mX5_pour 350 (nI c) v h) (nI ((A.put c v).ls (1 + c)).length, 0) (A.put c v) := by
  have hc4 := Nat.lt_of_lt_of_le hc w.1.1
  obtain ⟨b, eb, hb⟩ := xs_cYV (h := h) (v := v)
  have hb1 : b = 1 := hb.elim (fun z => z.1) (fun z => absurd hv z.2)
  subst hb1
  unfold mX5_pour
  rw [xs_ckC1 j.1 hc, Option.bind_some, xs_th0, eb, Option.bind_some]
  dsimp only
  rw [if_neg (by decide), xs_channelAt hc4, Option.bind_some]
  dsimp only
  rw [xs_hasRoom j.1 hc hc4, Option.bind_some]
  dsimp only
  rw [if_neg hn, if_neg (by decide), xs_q1 hc4, xs_q9 hc4]
  have hfu := w.full hc
  obtain ⟨h1, e1, C1, o1⟩ := j.1.add w.1 (xs_nL w.1 hc).1 (by have h9 : (A.ls (1 + c)).length < (A.a 8 c).toNatClampNeg := Classical.byContradiction fun z => hn (hfu.1.mpr z); omega) v
  have hA9 : (A.setL (1 + c) (A.ls (1 + c) ++ [v])).ls (9 + c) = A.ls (9 + c) := xs_setL_ne (by omega)
  have hA0 : (A.setL (1 + c) (A.ls (1 + c) ++ [v])).ls 0 = A.ls 0 := xs_setL_ne (by omega)
  obtain ⟨h2, e2, C2, o2⟩ := xs_wake C1 w.1 (xs_nL (A := A) w.1 hc).2.2 (by omega) (by rw [hA9]; exact w.fibs (xs_fL hc).2) (by rw [hA9, hA0]; exact w.lineW (xs_fL hc).2 (by omega))
  have ss := xs_ss_put (A := A) (c := c) (v := v)
  have C2 : xs_CR 0 h2 (A.put c v) := C2
  rw [e1, Option.bind_some]
  dsimp only
  rw [e2, Option.bind_some]
  dsimp only
  rw [(xs_len C2 (n := 1 + c) (by unfold xs_A.nL; omega)).1]
  have oo := o1.tr o2
  exact ⟨h2, rfl, ⟨C2, (j.2.off oo (fun c hc => xs_rgs2 hc)).grow (by rw [ss.1]; exact Nat.le_refl _) (by rw [ss.2.1]; exact Nat.le_refl _) (fun f hf => by rw [ss.2.2.1]; exact Nat.le_refl _)⟩, xs_o350 oo⟩
theorem xs_c0_pour (j : xs_JC A h) {y v : Int32} (hx : ∀ f, f < A.nC → y ≠ nI f) : mX5_pour 350 y v h = some (h, 0, 3) := by
  unfold mX5_pour
  rw [xs_ckC0 j.1 hx, Option.bind_some, xs_th3]
theorem xs_c1_pour (j : xs_JC A h) {c : Nat} (hc : c < A.nC) {v : Int32} (hv : ¬ (¬ v < -999 ∧ ¬ 999 < v)) : mX5_pour 350 (nI c) v h = some (h, 0, 1) := by
  obtain ⟨b, eb, hb⟩ := xs_cYV (h := h) (v := v)
  have hb1 : b = 0 := hb.elim (fun z => absurd z.2 hv) (fun z => z.1)
  subst hb1
  unfold mX5_pour
  rw [xs_ckC1 j.1 hc, Option.bind_some, xs_th0, eb, Option.bind_some]
  exact if_pos rfl
theorem xs_c2_pour (j : xs_JC A h) (w : xs_W A 99) {c : Nat} (hc : c < A.nC) {v : Int32} (hv : ¬ v < -999 ∧ ¬ 999 < v) (hn : A.a 8 c ≤ nI (A.ls (1 + c)).length) : mX5_pour 350 (nI c) v h = some (h, 0, 2) := by
  have hc4 := Nat.lt_of_lt_of_le hc w.1.1
  obtain ⟨b, eb, hb⟩ := xs_cYV (h := h) (v := v)
  have hb1 : b = 1 := hb.elim (fun z => z.1) (fun z => absurd hv z.2)
  subst hb1
  unfold mX5_pour
  rw [xs_ckC1 j.1 hc, Option.bind_some, xs_th0, eb, Option.bind_some]
  dsimp only
  rw [if_neg (by decide), xs_channelAt hc4, Option.bind_some]
  dsimp only
  rw [xs_hasRoom j.1 hc hc4, Option.bind_some]
  dsimp only
  rw [if_pos hn]
  exact if_pos rfl
/-! turns go by -/
theorem xs_c_run (j : xs_JC A h) (w : xs_W A 99) (fa : xs_fresh A) {t : Nat} (h1 : 1 ≤ t) (h2 : t ≤ 60) : xs_cS h (mX5_run 350 (nI t) h) ((A.turns t).a 10 0 - A.a 10 0, 0) (A.turns t) := by
  have g8 : h 0 8 = A.a 10 0 := j.1.sca 10 0 (Or.inr (Or.inr (Or.inr (Or.inl ⟨rfl, rfl⟩))))
  unfold mX5_run
  rw [xs_ckT1 h1 h2, Option.bind_some, xs_th0]
  dsimp only
  rw [g8]
  obtain ⟨h3, e3, C3, w3, f3, o3⟩ := xs_cRun (a2 := A.a 10 0) t 0 xo_n h A j.1 w (by omega) (by show t < 300; omega)
  rw [Nat.zero_add] at e3
  have ss := f3.1
  exact ⟨h3, e3, ⟨C3, (j.2.off o3 (fun c hc => xs_rgs2 hc)).grow (by rw [ss.1]; exact Nat.le_refl _) (by rw [ss.2.1]; exact Nat.le_refl _) (fun f hf => by rw [ss.2.2.1]; exact Nat.le_refl _)⟩, xs_o350 o3⟩
theorem xs_c1_run {x : Int32} (hx : ∀ t, 1 ≤ t → t ≤ 60 → x ≠ nI t) : mX5_run 350 x h = some (h, 0, 1) := by
  unfold mX5_run
  rw [xs_ckT0 hx, Option.bind_some, xs_th1]
end AH
