/-! what there is grows -/
def xs_A.addC (A : xs_A) (p : Nat) : xs_A := (A.nC + 1, A.nF, A.sc, A.kd, A.on, A.tw, (A.set 8 A.nC (nI p)).a, A.ls)
def xs_A.addF (A : xs_A) : xs_A := (A.nC, A.nF + 1, A.sc, A.kd, A.on, A.tw, A.a, A.ls)
def xs_A.addS (A : xs_A) (f : Nat) (k o t : Int32) : xs_A := (A.nC, A.nF, (fun g => if g = f then A.sc f + 1 else A.sc g), (fun g j => if g = f ∧ j = A.sc f then k else A.kd g j), (fun g j => if g = f ∧ j = A.sc f then o else A.on g j), (fun g j => if g = f ∧ j = A.sc f then t else A.tw g j), A.a, A.ls)
def xs_okS (A : xs_A) (f : Nat) (k o t : Int32) : Prop := (k = 0 ∧ (∃ c, c < A.nC ∧ o = nI c) ∧ ¬ t < -999 ∧ ¬ 999 < t) ∨ (k = 1 ∧ ∃ c, c < A.nC ∧ o = nI c) ∨ (k = 2 ∧ ¬ o < 1 ∧ ¬ 20 < o) ∨ k = 3 ∨ (k = 4 ∧ (∃ g, g < A.nF ∧ o = nI g) ∧ o ≠ nI f) ∨ (k = 5 ∧ (∃ q, q ≤ A.sc f ∧ o = nI q) ∧ ¬ t < 1 ∧ ¬ 9 < t) ∨ (k = 6 ∧ ∃ c, c < A.nC ∧ o = nI c)
section AD
variable {B : Nat} {h : xw_M} {A : xs_A} {S : Nat → Nat} {k : Nat}
theorem xs_CR.setC (C : xs_CR B h A) (hs : A.sz) {n : Nat} (hn : n ≤ 4) : xs_CR B (xw_st h B 5 (nI n)) (n, A.nF, A.sc, A.kd, A.on, A.tw, A.a, A.ls) := xs_CR.mk
  (bd := ⟨hn, C.bd.2⟩)
  (c5 := xw_stE)
  (c6 := by rw [xw_stj (fun z => absurd z.2 (by decide))]; exact C.c6)
  (num := fun f hf => by rw [xw_st_ne _ _ _ _ (by omega)]; exact C.num f hf)
  (cnt := fun f hf => by rw [xw_st_ne _ _ _ _ (by omega)]; exact C.cnt f hf)
  (stp := fun f j hf hj => by rw [xw_st_ne _ _ _ _ (by omega)]; exact C.stp f j hf hj)
  (sca := fun t i hd => by rw [xw_stj (fun z => xs_sk_cnt (A := A) hs hd ⟨z.1, Or.inl z.2⟩)]; exact C.sca t i hd)
  (que := fun n hn => by
    have h1 := (xs_qk_st (A := A) hs hn (B := B)).1
    unfold xs_kQ at h1
    exact (C.que n hn).same (xw_st_ne _ _ _ _ (by omega)) (xw_st_ne _ _ _ _ (by omega)))
theorem xs_CR.setN (C : xs_CR B h A) (hs : A.sz) (hn : A.nF < 8) (h0 : A.sc A.nF = 0) : xs_CR B (xw_st h B 6 (nI (A.nF + 1))) A.addF := xs_CR.mk
  (bd := ⟨C.bd.1, hn⟩)
  (c5 := by rw [xw_stj (fun z => absurd z.2 (by decide))]; exact C.c5)
  (c6 := xw_stE)
  (num := fun f hf => by rw [xw_st_ne _ _ _ _ (by omega)]; exact C.num f hf)
  (cnt := fun f hf => by rw [xw_st_ne _ _ _ _ (by omega)]; exact C.cnt f hf)
  (stp := fun f j hf hj => by
    have hf : f < A.nF + 1 := hf
    have hj : j < A.sc f := hj
    rw [xw_st_ne _ _ _ _ (by omega)]
    have hf2 : f < A.nF := by
      by_cases e : f = A.nF
      · rw [e, h0] at hj; omega
      · omega
    exact C.stp f j hf2 hj)
  (sca := fun t i hd => by rw [xw_stj (fun z => xs_sk_cnt (A := A) hs hd ⟨z.1, Or.inr z.2⟩)]; exact C.sca t i hd)
  (que := fun n hn => by
    have h1 := (xs_qk_st (A := A) hs hn (B := B)).1
    unfold xs_kQ at h1
    exact (C.que n hn).same (xw_st_ne _ _ _ _ (by omega)) (xw_st_ne _ _ _ _ (by omega)))
theorem xs_CR.addS (C : xs_CR B h A) (hs : A.sz) {f : Nat} (hf : f < A.nF) (hc : A.sc f < 12) (x o t : Int32) : xs_CR B (xw_st (xw_st (xw_st (xw_st h (B + 42 + 15 * f + A.sc f) 0 x) (B + 42 + 15 * f + A.sc f) 1 o) (B + 42 + 15 * f + A.sc f) 2 t) (B + 40 + 15 * f) 7 (nI (A.sc f + 1))) (A.addS f x o t) := by
  obtain ⟨s1, s2, s3⟩ := hs
  have lo : ∀ c j, c ≠ B + 42 + 15 * f + A.sc f → ¬ (c = B + 40 + 15 * f ∧ j = 7) → xw_st (xw_st (xw_st (xw_st h (B + 42 + 15 * f + A.sc f) 0 x) (B + 42 + 15 * f + A.sc f) 1 o) (B + 42 + 15 * f + A.sc f) 2 t) (B + 40 + 15 * f) 7 (nI (A.sc f + 1)) c j = h c j := fun c j h1 h2 => by
    rw [xw_stj h2, xw_st_ne _ _ _ _ h1, xw_st_ne _ _ _ _ h1, xw_st_ne _ _ _ _ h1]
  have lk : ∀ j, xw_st (xw_st (xw_st (xw_st h (B + 42 + 15 * f + A.sc f) 0 x) (B + 42 + 15 * f + A.sc f) 1 o) (B + 42 + 15 * f + A.sc f) 2 t) (B + 40 + 15 * f) 7 (nI (A.sc f + 1)) (B + 42 + 15 * f + A.sc f) j = if j = 2 then t else if j = 1 then o else if j = 0 then x else h (B + 42 + 15 * f + A.sc f) j := fun j => by
    rw [xw_stj (fun z => by omega), xs_stf, xs_stf, xs_stf]
  have lc : ∀ c, c < B + 40 → xw_st (xw_st (xw_st (xw_st h (B + 42 + 15 * f + A.sc f) 0 x) (B + 42 + 15 * f + A.sc f) 1 o) (B + 42 + 15 * f + A.sc f) 2 t) (B + 40 + 15 * f) 7 (nI (A.sc f + 1)) c = h c := fun c h1 => funext fun j => lo c j (by omega) (fun z => by omega)
  have l7 : xw_st (xw_st (xw_st (xw_st h (B + 42 + 15 * f + A.sc f) 0 x) (B + 42 + 15 * f + A.sc f) 1 o) (B + 42 + 15 * f + A.sc f) 2 t) (B + 40 + 15 * f) 7 (nI (A.sc f + 1)) (B + 40 + 15 * f) 7 = nI (A.sc f + 1) := xw_stE
  generalize xw_st (xw_st (xw_st (xw_st h (B + 42 + 15 * f + A.sc f) 0 x) (B + 42 + 15 * f + A.sc f) 1 o) (B + 42 + 15 * f + A.sc f) 2 t) (B + 40 + 15 * f) 7 (nI (A.sc f + 1)) = h' at lo lk lc l7 ⊢
  refine xs_CR.mk C.bd ?_ ?_ (fun g hg => ?_) (fun g hg => ?_) (fun g j hg hj => ?_) (fun t' i hd => ?_) (fun n hn => ?_)
  · rw [lc _ (by omega)]; exact C.c5
  · rw [lc _ (by omega)]; exact C.c6
  · rw [lo _ _ (by omega) (fun z => by omega)]; exact C.num g hg
  · show _ = nI (if g = f then A.sc f + 1 else A.sc g)
    by_cases e : g = f
    · rw [e, if_pos rfl]; exact l7
    · rw [if_neg e, lo _ _ (by omega) (fun z => by omega)]; exact C.cnt g hg
  · have hg : g < A.nF := hg
    have hj : j < (if g = f then A.sc f + 1 else A.sc g) := hj
    show _ = (if g = f ∧ j = A.sc f then x else A.kd g j) ∧ _ = (if g = f ∧ j = A.sc f then o else A.on g j) ∧ _ = (if g = f ∧ j = A.sc f then t else A.tw g j)
    by_cases e : g = f ∧ j = A.sc f
    · rw [if_pos e, if_pos e, if_pos e, e.1, e.2, lk, lk, lk]
      exact ⟨rfl, rfl, rfl⟩
    · have hj2 : j < A.sc g := by
        by_cases e2 : g = f
        · rw [if_pos e2] at hj
          have : j ≠ A.sc f := fun z => e ⟨e2, z⟩
          rw [e2]
          omega
        · rw [if_neg e2] at hj
          exact hj
      have h12 := s3 g hg
      have hne : B + 42 + 15 * g + j ≠ B + 42 + 15 * f + A.sc f := by
        intro z
        by_cases e2 : g = f
        · subst e2
          omega
        · omega
      rw [if_neg e, if_neg e, if_neg e, lo _ _ hne (fun z => by omega), lo _ _ hne (fun z => by omega), lo _ _ hne (fun z => by omega)]
      exact C.stp g j hg hj2
  · have c0 := C.sca t' i hd
    rcases hd with ⟨a1, a2, a3⟩ | ⟨a1, a2⟩ | ⟨a1, a2⟩ | ⟨a1, a2⟩ | ⟨a1, a2, a3⟩
    · have ek : xs_sk B t' i = B + 40 + 15 * i := if_pos a2
      have ej : xs_sj t' = t' := if_pos a2
      rw [ek, ej] at c0 ⊢
      rw [lo _ _ (by omega) (fun z => by omega)]
      exact c0
    · have ek : xs_sk B t' i < B + 40 := by unfold xs_sk; rw [if_neg (by omega), if_pos a1]; omega
      rw [lc _ ek]
      exact c0
    · have ek : xs_sk B t' i < B + 40 := by unfold xs_sk; rw [if_neg (by omega), if_neg (by omega), if_pos (by omega)]; omega
      rw [lc _ ek]
      exact c0
    · have ek : xs_sk B t' i < B + 40 := by unfold xs_sk; rw [if_neg (by omega), if_neg (by omega), if_pos (by omega)]; omega
      rw [lc _ ek]
      exact c0
    · have ek : xs_sk B t' i = B + 42 + 15 * (t' - 20) + i := by unfold xs_sk; rw [if_neg (by omega), if_neg (by omega), if_neg (by omega)]
      have ej : xs_sj t' = 3 := by unfold xs_sj; rw [if_neg (by omega), if_neg (by omega), if_neg (by omega), if_neg (by omega)]
      rw [ek, ej] at c0 ⊢
      by_cases e : B + 42 + 15 * (t' - 20) + i = B + 42 + 15 * f + A.sc f
      · rw [e] at c0 ⊢
        rw [lk]
        exact c0
      · rw [lo _ _ e (fun z => by omega)]
        exact c0
  · have hn2 : xs_qk B n + 1 < B + 40 := by
      unfold xs_A.nL at hn
      unfold xs_qk
      (repeat' split) <;> omega
    exact (C.que n hn).same (lc _ (by omega)) (lc _ (by omega))
/-! the order holds in what has grown -/
theorem xs_W.addC (w : xs_W A 99) (fa : xs_fresh A) (h4 : A.nC < 4) {p : Nat} (hp1 : 1 ≤ p) (hp8 : p ≤ 8) : xs_W (A.addC p) 99 ∧ xs_fresh (A.addC p) := by
  obtain ⟨h1, h2, h3, h4', h5, h6⟩ := w
  have e1 : ∀ f, (A.addC p).a 1 f = A.a 1 f := fun f => xs_set_ne (t := 8) (t' := 1) (fun z => absurd z.1 (by decide))
  have e2 : ∀ f, (A.addC p).a 2 f = A.a 2 f := fun f => xs_set_ne (t := 8) (t' := 2) (fun z => absurd z.1 (by decide))
  have ep : ∀ f, (A.addC p).pl f = A.pl f := fun f => congrArg Int32.toNatClampNeg (e2 f)
  have efl : ∀ n, (A.addC p).fL n → A.fL n := by
    intro n hn
    unfold xs_A.fL at hn ⊢
    have : (A.addC p).nC = A.nC + 1 := rfl
    rw [this] at hn
    omega
  refine ⟨⟨⟨h4, h1.2.1, h1.2.2⟩, fun f j hf hj => ?_, fun f hf => by rw [e2]; exact h3 f hf, fun f hf => by rw [e1, ep]; exact h4' f hf, fun c hc => ?_, fun n hn => ?_⟩, fun f hf hf8 => ?_, fun f j hf8 hj hj12 => ?_, fun c hc hc4 => ?_⟩
  · obtain ⟨t1, t2, t3, t4⟩ := h2 f j hf hj
    refine ⟨fun z => ?_, t2, t3, t4⟩
    obtain ⟨c, hc, e⟩ := t1 z
    exact ⟨c, Nat.lt_succ_of_lt hc, e⟩
  · have hc : c < A.nC + 1 := hc
    by_cases e : c = A.nC
    · subst e
      refine ⟨p, hp1, hp8, xs_set_eq, ?_⟩
      show (A.ls (1 + A.nC)).length ≤ p
      rw [(fa.2.2 A.nC (Nat.le_refl _) h4).2.1]
      exact Nat.zero_le _
    · obtain ⟨q, q1, q2, q3, q4⟩ := h5 c (by omega)
      exact ⟨q, q1, q2, (xs_set_ne (fun z => e z.2)).trans q3, q4⟩
  · refine ⟨(h6 n (efl n hn)).1, fun f hf => ?_⟩
    have := (h6 n (efl n hn)).2 f hf
    unfold xs_A.at at this ⊢
    rw [e1, ep]
    exact this
  · obtain ⟨q1, q2, q3⟩ := fa.1 f hf hf8
    exact ⟨(e1 f).trans q1, fun t ht1 ht2 => (xs_set_ne (fun z => by omega)).trans (q2 t ht1 ht2), q3⟩
  · exact (xs_set_ne (fun z => by omega)).trans (fa.2.1 f j hf8 hj hj12)
  · have hc : A.nC + 1 ≤ c := hc
    obtain ⟨q1, q2⟩ := fa.2.2 c (by omega) hc4
    exact ⟨(xs_set_ne (fun z => by omega)).trans q1, q2⟩
theorem xs_W.addF (w : xs_W A 99) (fa : xs_fresh A) (h8 : A.nF < 8) : xs_W A.addF 99 ∧ xs_fresh A.addF := by
  obtain ⟨h1, h2, h3, h4, h5, h6⟩ := w
  obtain ⟨q1, q2, q3⟩ := fa.1 A.nF (Nat.le_refl _) h8
  have lt : ∀ f, f < A.addF.nF → f ≠ A.nF → f < A.nF := fun f hf hn => by
    have hf : f < A.nF + 1 := hf
    omega
  refine ⟨⟨⟨h1.1, h8, fun f hf => ?_⟩, fun f j hf hj => ?_, fun f hf => ?_, fun f hf hw => ?_, h5, fun n hn => ⟨⟨(h6 n hn).1.1, fun x hx => ?_⟩, fun f hf => ?_⟩⟩, fun f hf hf8 => fa.1 f (Nat.le_of_succ_le hf) hf8, fa.2.1, fa.2.2⟩
  · by_cases e : f = A.nF
    · show A.sc f ≤ 12
      rw [e, q3]
      exact Nat.zero_le _
    · exact h1.2.2 f (lt f hf e)
  · by_cases e : f = A.nF
    · have hj : j < A.sc f := hj
      rw [e, q3] at hj
      exact absurd hj (Nat.not_lt_zero _)
    · obtain ⟨t1, t2, t3, t4⟩ := h2 f j (lt f hf e) hj
      refine ⟨t1, fun z => ?_, t3, t4⟩
      obtain ⟨g, hg, eg⟩ := t2 z
      exact ⟨g, Nat.lt_succ_of_lt hg, eg⟩
  · by_cases e : f = A.nF
    · refine ⟨0, Nat.zero_le _, ?_⟩
      rw [e]
      exact q2 2 (by decide) (by decide)
    · exact h3 f (lt f hf e)
  · by_cases e : f = A.nF
    · have hw : A.a 1 f = 1 ∨ A.a 1 f = 2 ∨ A.a 1 f = 4 := hw
      rw [e, q1] at hw
      exact absurd hw (by decide)
    · exact h4 f (lt f hf e) hw
  · obtain ⟨g, hg, eg⟩ := (h6 n hn).1.2 x hx
    exact ⟨g, Nat.lt_succ_of_lt hg, eg⟩
  · by_cases e : f = A.nF
    · have h0 : ¬ nI f ∈ A.ls n := fun z => by
        obtain ⟨g, hg, eg⟩ := (h6 n hn).1.2 (nI f) z
        have := xs_inj (by omega) (by omega) eg
        omega
      refine ⟨fun z => absurd z h0, fun z => ?_⟩
      have hz : A.a 1 f = 0 ∨ A.a 1 f = 1 ∨ A.a 1 f = 2 := by
        unfold xs_A.at at z
        split at z
        · exact Or.inl z.1
        · split at z
          · exact Or.inr (Or.inl z.1)
          · exact Or.inr (Or.inr z.1)
      rw [e, q1] at hz
      exact absurd hz (by decide)
    · exact (h6 n hn).2 f (lt f hf e)
theorem xs_W.addS (w : xs_W A 99) (fa : xs_fresh A) {f : Nat} (hf : f < A.nF) (hc : A.sc f < 12) {x o t : Int32} (ok : xs_okS A f x o t) : xs_W (A.addS f x o t) 99 ∧ xs_fresh (A.addS f x o t) := by
  obtain ⟨h1, h2, h3, h4, h5, h6⟩ := w
  have es : ∀ g, A.sc g ≤ (A.addS f x o t).sc g := fun g => by
    show A.sc g ≤ (if g = f then A.sc f + 1 else A.sc g)
    split
    · rename_i e; rw [e]; omega
    · exact Nat.le_refl _
  have eo : ∀ g j, j < A.sc g → (A.addS f x o t).on g j = A.on g j := fun g j hj => if_neg (fun z => by rw [z.2, z.1] at hj; omega)
  refine ⟨⟨⟨h1.1, h1.2.1, fun g hg => ?_⟩, fun g j hg hj => ?_, fun g hg => ?_, fun g hg hw => Nat.lt_of_lt_of_le (h4 g hg hw) (es g), h5, fun n hn => ⟨(h6 n hn).1, fun g hg => ?_⟩⟩, fun g hg hg8 => ?_, fun g j hg8 hj hj12 => fa.2.1 g j hg8 (Nat.le_trans (es g) hj) hj12, fa.2.2⟩
  · show (if g = f then A.sc f + 1 else A.sc g) ≤ 12
    split
    · omega
    · exact h1.2.2 g hg
  · have hg : g < A.nF := hg
    have hj : j < (if g = f then A.sc f + 1 else A.sc g) := hj
    show ((if g = f ∧ j = A.sc f then x else A.kd g j) = 0 ∨ (if g = f ∧ j = A.sc f then x else A.kd g j) = 1 ∨ (if g = f ∧ j = A.sc f then x else A.kd g j) = 6 → ∃ c, c < A.nC ∧ (if g = f ∧ j = A.sc f then o else A.on g j) = nI c) ∧ ((if g = f ∧ j = A.sc f then x else A.kd g j) = 4 → ∃ q, q < A.nF ∧ (if g = f ∧ j = A.sc f then o else A.on g j) = nI q) ∧ ((if g = f ∧ j = A.sc f then x else A.kd g j) = 5 → ∃ q, q ≤ j ∧ (if g = f ∧ j = A.sc f then o else A.on g j) = nI q) ∧ ∃ q, q < 7 ∧ (if g = f ∧ j = A.sc f then x else A.kd g j) = nI q
    by_cases e : g = f ∧ j = A.sc f
    · rw [if_pos e, if_pos e, e.2]
      rcases ok with ⟨rfl, a, b⟩ | ⟨rfl, a⟩ | ⟨rfl, a⟩ | rfl | ⟨rfl, a, b⟩ | ⟨rfl, a, b⟩ | ⟨rfl, a⟩
      · exact ⟨fun _ => a, fun z => absurd z (by decide), fun z => absurd z (by decide), 0, by decide, rfl⟩
      · exact ⟨fun _ => a, fun z => absurd z (by decide), fun z => absurd z (by decide), 1, by decide, rfl⟩
      · exact ⟨fun z => absurd z (by decide), fun z => absurd z (by decide), fun z => absurd z (by decide), 2, by decide, rfl⟩
      · exact ⟨fun z => absurd z (by decide), fun z => absurd z (by decide), fun z => absurd z (by decide), 3, by decide, rfl⟩
      · exact ⟨fun z => absurd z (by decide), fun _ => a, fun z => absurd z (by decide), 4, by decide, rfl⟩
      · exact ⟨fun z => absurd z (by decide), fun z => absurd z (by decide), fun _ => a, 5, by decide, rfl⟩
      · exact ⟨fun _ => a, fun z => absurd z (by decide), fun z => absurd z (by decide), 6, by decide, rfl⟩
    · have hj2 : j < A.sc g := by
        by_cases e2 : g = f
        · rw [if_pos e2] at hj
          have : j ≠ A.sc f := fun z => e ⟨e2, z⟩
          rw [e2]
          omega
        · rw [if_neg e2] at hj
          exact hj
      rw [if_neg e, if_neg e]
      exact h2 g j hg hj2
  · obtain ⟨p, hp, e⟩ := h3 g hg
    exact ⟨p, Nat.le_trans hp (es g), e⟩
  · have hg : g < A.nF := hg
    have h0 := (h6 n hn).2 g hg
    have h7 : ∀ n, (A.addS f x o t).at 99 n g ↔ A.at 99 n g := by
      intro n
      unfold xs_A.at
      show (if n = 0 then A.a 1 g = 0 ∧ g ≠ 99 else if n < 9 then A.a 1 g = 1 ∧ (A.addS f x o t).on g (A.pl g) = nI (n - 5) else A.a 1 g = 2 ∧ (A.addS f x o t).on g (A.pl g) = nI (n - 9)) ↔ _
      split
      · exact Iff.rfl
      · split
        · exact ⟨fun z => ⟨z.1, by rw [← eo g _ (h4 g hg (Or.inl z.1))]; exact z.2⟩, fun z => ⟨z.1, by rw [eo g _ (h4 g hg (Or.inl z.1))]; exact z.2⟩⟩
        · exact ⟨fun z => ⟨z.1, by rw [← eo g _ (h4 g hg (Or.inr (Or.inl z.1)))]; exact z.2⟩, fun z => ⟨z.1, by rw [eo g _ (h4 g hg (Or.inr (Or.inl z.1)))]; exact z.2⟩⟩
    exact h0.trans (h7 n).symm
  · have hg : A.nF ≤ g := hg
    obtain ⟨q1, q2, q3⟩ := fa.1 g hg hg8
    refine ⟨q1, q2, ?_⟩
    show (if g = f then A.sc f + 1 else A.sc g) = 0
    rw [if_neg (by omega)]
    exact q3
end AD
