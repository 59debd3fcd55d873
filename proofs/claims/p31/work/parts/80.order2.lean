/-! what more is in order: a fiber's move changes it alone, but that others may be ready -/
/-- all but fiber r stays, but that some are ready -/
def xd_ot (r : Nat) (A A' : xs_A) : Prop := xs_ss A A' ∧ (∀ t i, t ≠ 1 → (t = 2 ∨ t = 3 ∨ t = 4 ∨ t = 6 → i ≠ r) → t ≠ 20 + r → A'.a t i = A.a t i) ∧ ∀ g, g ≠ r → A'.a 1 g = A.a 1 g ∨ A'.a 1 g = 0
section XI
variable {A P : xs_A} {r : Nat}
theorem xd_ot.rf : xd_ot r A A := ⟨xs_ss.rf, fun _ _ _ _ _ => rfl, fun _ _ => Or.inl rfl⟩
theorem xd_ot.tr {A1 A2 : xs_A} (a : xd_ot r A A1) (b : xd_ot r A1 A2) : xd_ot r A A2 := ⟨a.1.tr b.1, fun t i h1 h2 h3 => (b.2.1 t i h1 h2 h3).trans (a.2.1 t i h1 h2 h3), fun g hg => by
  rcases b.2.2 g hg with h | h
  · rw [h]; exact a.2.2 g hg
  · exact Or.inr h⟩
theorem xd_ot.set (o : xd_ot r A P) {t : Nat} (ht : t = 1 ∨ t = 2 ∨ t = 3 ∨ t = 4 ∨ t = 6) (v : Int32) : xd_ot r A (P.set t r v) := ⟨o.1, fun u i h1 h2 h3 => by
  have e : (P.set t r v).a u i = P.a u i := xs_set_ne (fun z => by
    rcases ht with e | e | e | e | e
    · omega
    · exact h2 (by omega) z.2
    · exact h2 (by omega) z.2
    · exact h2 (by omega) z.2
    · exact h2 (by omega) z.2)
  exact e.trans (o.2.1 u i h1 h2 h3), fun g hg => by
  have e : (P.set t r v).a 1 g = P.a 1 g := xs_set_ne (fun z => hg z.2)
  rw [e]; exact o.2.2 g hg⟩
theorem xd_ot.setB (o : xd_ot r A P) (j : Nat) (v : Int32) : xd_ot r A (P.set (20 + r) j v) := ⟨o.1, fun u i h1 h2 h3 => by
  have e : (P.set (20 + r) j v).a u i = P.a u i := xs_set_ne (fun z => h3 z.1)
  exact e.trans (o.2.1 u i h1 h2 h3), fun g hg => by
  have e : (P.set (20 + r) j v).a 1 g = P.a 1 g := xs_set_ne (fun z => by omega)
  rw [e]; exact o.2.2 g hg⟩
theorem xd_ot.setL (o : xd_ot r A P) (n : Nat) (l : List Int32) : xd_ot r A (P.setL n l) := ⟨o.1, o.2.1, o.2.2⟩
/-- somebody is ready -/
theorem xd_ot.to0 (o : xd_ot r A P) (x : Nat) : xd_ot r A (P.set 1 x 0) := ⟨o.1, fun u i h1 h2 h3 => by
  have e : (P.set 1 x 0).a u i = P.a u i := xs_set_ne (fun z => h1 z.1)
  exact e.trans (o.2.1 u i h1 h2 h3), fun g hg => by
  by_cases e : g = x
  · subst e; exact Or.inr xs_set_eq
  · have e2 : (P.set 1 x 0).a 1 g = P.a 1 g := xs_set_ne (fun z => e z.2)
    rw [e2]; exact o.2.2 g hg⟩
theorem xd_ot.ready (o : xd_ot r A P) (x : Nat) : xd_ot r A (P.ready x) := (o.to0 x).setL 0 _
theorem xd_ot.wake (o : xd_ot r A P) (n : Nat) : xd_ot r A (P.wake n) := by
  unfold xs_A.wake
  split
  · exact o
  · exact ((o.setL n _).to0 _).setL 0 _
theorem xd_ot.move (o : xd_ot r A P) : xd_ot r A (P.move r) := (o.set (by omega) _).set (by omega) _
theorem xd_ot.wait (o : xd_ot r A P) (s : Int32) (n : Nat) : xd_ot r A (P.wait r s n) := (o.set (by omega) _).setL _ _
theorem xd_ot.put (o : xd_ot r A P) (c : Nat) (v : Int32) : xd_ot r A (P.put c v) := (o.setL _ _).wake _
theorem xd_ot.act : xd_ot r A (A.act r) := by
  have hs : ∀ c v, xd_ot r A (A.send r c v) := fun c v => by
    unfold xs_A.send
    split
    · exact xd_ot.rf.wait _ _
    · exact (xd_ot.rf.put _ _).move
  unfold xs_A.act
  split
  · exact hs _ _
  split
  · unfold xs_A.take
    split
    · exact xd_ot.rf.wait _ _
    · exact (((xd_ot.rf.setL _ _).set (by omega) _).wake _).move
  split
  · exact ((xd_ot.rf.set (by omega) _).set (by omega) _).move
  split
  · exact xd_ot.rf.move
  split
  · unfold xs_A.join
    split
    · exact xd_ot.rf.move
    · exact xd_ot.rf.set (by omega) _
  split
  · unfold xs_A.back
    split
    · exact (xd_ot.rf.setB _ _).move
    · exact ((xd_ot.rf.setB _ _).set (by omega) _).set (by omega) _
  split
  · exact hs _ _
  · exact xd_ot.rf.move
theorem xd_ot.go : ∀ (n : Nat) (A : xs_A), xd_ot r A (xs_A.go r n A) := by
  intro n
  induction n with
  | zero => intro A; exact xd_ot.rf
  | succ n ih =>
    intro A
    unfold xs_A.go
    split
    · exact xd_ot.rf
    split
    · exact xd_ot.act
    · exact xd_ot.act.tr (ih _)
/-- nothing but states and lists changes -/
def xd_sa (A A' : xs_A) : Prop := ∀ t i, t ≠ 1 → A'.a t i = A.a t i
theorem xd_ready_sa {x : Nat} : xd_sa A (A.ready x) := fun t i h => xs_set_ne (fun z => h z.1)
theorem xd_sa.tr {A1 A2 : xs_A} (a : xd_sa A A1) (b : xd_sa A1 A2) : xd_sa A A2 := fun t i h => (b t i h).trans (a t i h)
theorem xd_joins {f : Nat} : ∀ (m i : Nat) (A : xs_A), xd_ot r A (xs_A.joins f m i A) ∧ xd_sa A (xs_A.joins f m i A) := by
  intro m
  induction m with
  | zero => intro i A; exact ⟨xd_ot.rf, fun _ _ _ => rfl⟩
  | succ m ih =>
    intro i A
    unfold xs_A.joins
    split
    · split
      · exact ⟨(xd_ot.rf.ready i).tr (ih _ _).1, xd_ready_sa.tr (ih _ _).2⟩
      · exact ih _ _
    · exact ih _ _
theorem xd_rise : ∀ (m i : Nat) (A : xs_A), xd_ot r A (xs_A.rise m i A) ∧ xd_sa A (xs_A.rise m i A) := by
  intro m
  induction m with
  | zero => intro i A; exact ⟨xd_ot.rf, fun _ _ _ => rfl⟩
  | succ m ih =>
    intro i A
    unfold xs_A.rise
    split
    · split
      · exact ⟨(xd_ot.rf.ready i).tr (ih _ _).1, xd_ready_sa.tr (ih _ _).2⟩
      · exact ih _ _
    · exact ih _ _
theorem xd_fin : xd_ot r A (A.fin r) ∧ xd_sa A (A.fin r) := by
  unfold xs_A.fin
  split
  · split
    · exact ⟨(xd_ot.rf.set (by omega) 5).tr (xd_joins _ _ _).1, xd_sa.tr (A1 := A.set 1 r 5) (fun t i h => xs_set_ne (fun z => h z.1)) (xd_joins (r := r) _ _ _).2⟩
    · exact ⟨xd_ot.rf.setL _ _, fun _ _ _ => rfl⟩
  · exact ⟨xd_ot.rf, fun _ _ _ => rfl⟩
/-- a step is done, or not -/
theorem xd_move4 : (A.move r).a 4 r = A.a 4 r + 1 := xs_set_eq
theorem xd_wait_a {s : Int32} {n t i : Nat} (h : t ≠ 1) : (A.wait r s n).a t i = A.a t i := xs_set_ne (A := A) (fun z => h z.1)
theorem xd_act4 : (A.act r).a 4 r = A.a 4 r ∨ (A.act r).a 4 r = A.a 4 r + 1 := by
  have hw : ∀ (P : xs_A) n, (P.wake n).a 4 r = P.a 4 r := fun P n => xs_wake_a (by omega)
  have hs : ∀ c v, (A.send r c v).a 4 r = A.a 4 r ∨ (A.send r c v).a 4 r = A.a 4 r + 1 := fun c v => by
    unfold xs_A.send
    split
    · exact Or.inl (xd_wait_a (by omega))
    · refine Or.inr (xd_move4.trans ?_)
      unfold xs_A.put
      rw [hw]
      rfl
  unfold xs_A.act
  split
  · exact hs _ _
  split
  · unfold xs_A.take
    split
    · exact Or.inl (xd_wait_a (by omega))
    · refine Or.inr (xd_move4.trans ?_)
      rw [hw, xs_set_ne (by omega)]
      rfl
  split
  · refine Or.inr (xd_move4.trans ?_)
    rw [xs_set_ne (by omega), xs_set_ne (by omega)]
  split
  · exact Or.inr xd_move4
  split
  · unfold xs_A.join
    split
    · exact Or.inr xd_move4
    · exact Or.inl (xs_set_ne (by omega))
  split
  · unfold xs_A.back
    split
    · exact Or.inr (xd_move4.trans (by rw [xs_set_ne (by omega)]))
    · exact Or.inr xs_set_eq
  split
  · exact hs _ _
  · exact Or.inr xd_move4
theorem xd_go4 : ∀ (n : Nat) (A : xs_A), ∃ k, k ≤ n ∧ (xs_A.go r n A).a 4 r = A.a 4 r + nI k := by
  intro n
  induction n with
  | zero => intro A; exact ⟨0, Nat.le_refl _, by show A.a 4 r = _; rw [show nI 0 = (0 : Int32) from rfl, Int32.add_zero]⟩
  | succ n ih =>
    intro A
    have h1 : ∀ {x : Int32}, x = A.a 4 r ∨ x = A.a 4 r + 1 → ∃ k, k ≤ 1 ∧ x = A.a 4 r + nI k := fun {x} h => by
      rcases h with h | h
      · exact ⟨0, by omega, by rw [h, show nI 0 = (0 : Int32) from rfl, Int32.add_zero]⟩
      · exact ⟨1, by omega, by rw [h]; rfl⟩
    obtain ⟨k1, l1, e1⟩ := h1 (xd_act4 (A := A) (r := r))
    unfold xs_A.go
    split
    · exact ⟨0, by omega, by rw [show nI 0 = (0 : Int32) from rfl, Int32.add_zero]⟩
    split
    · exact ⟨k1, by omega, e1⟩
    · obtain ⟨k2, l2, e2⟩ := ih (A.act r)
      refine ⟨k1 + k2, by omega, ?_⟩
      rw [e2, e1, Int32.add_assoc]
      congr 1
      clear e1 e2 h1
      unfold nI
      exact (Int32.ofNat_add k1 k2).symm
/-- what a turn does -/
theorem xd_turn0 (he : (xs_A.rise A.nF 0 A).ls 0 = []) : A.turn.a 10 0 = A.a 10 0 + 1 ∧ A.turn.a 9 0 = A.a 9 0 + 1 ∧ ∀ t i, t ≠ 1 → t ≠ 9 → t ≠ 10 → A.turn.a t i = A.a t i := by
  have e : A.turn = ((xs_A.rise A.nF 0 A).set 10 0 ((xs_A.rise A.nF 0 A).a 10 0 + 1)).tick := by
    unfold xs_A.turn
    rw [he]
  have s := (xd_rise (r := 99) A.nF 0 A).2
  rw [e]
  unfold xs_A.tick
  refine ⟨?_, ?_, fun t i h1 h9 h10 => ?_⟩
  · rw [xs_set_ne (by omega), xs_set_eq, s 10 0 (by omega)]
  · rw [xs_set_eq, xs_set_ne (by omega), s 9 0 (by omega)]
  · rw [xs_set_ne (by omega), xs_set_ne (by omega), s t i h1]
theorem xd_turn1 {f : Nat} {x : Int32} {l : List Int32} (he : (xs_A.rise A.nF 0 A).ls 0 = x :: l) (hx : x.toNatClampNeg = f) (hf : f < 99) : A.turn.a 10 0 = A.a 10 0 ∧ A.turn.a 9 0 = A.a 9 0 + 1 ∧ (∀ g, A.turn.a 5 g = if g = f then A.a 5 g + 1 else A.a 5 g) ∧ (∀ g, g ≠ f → A.turn.a 4 g = A.a 4 g) ∧ ∃ k, k ≤ 4 ∧ A.turn.a 4 f = A.a 4 f + nI k := by
  have s := (xd_rise (r := 99) A.nF 0 A).2
  generalize hB : ((xs_A.rise A.nF 0 A).setL 0 l).set 5 f ((xs_A.rise A.nF 0 A).a 5 f + 1) = B
  have e : A.turn = ((xs_A.go f 4 B).fin f).tick := by
    unfold xs_A.turn
    rw [he]
    show ((xs_A.go x.toNatClampNeg 4 (((xs_A.rise A.nF 0 A).setL 0 l).set 5 x.toNatClampNeg ((xs_A.rise A.nF 0 A).a 5 x.toNatClampNeg + 1))).fin x.toNatClampNeg).tick = _
    rw [hx, hB]
  have o := xd_ot.go (r := f) 4 B
  have s2 := (xd_fin (A := xs_A.go f 4 B) (r := f)).2
  have b5 : ∀ g, B.a 5 g = if g = f then A.a 5 g + 1 else A.a 5 g := fun g => by
    rw [← hB]
    by_cases h : g = f
    · subst h
      rw [xs_set_eq, if_pos rfl, s 5 g (by omega)]
    · rw [xs_set_ne (fun z => h z.2), if_neg h]
      exact s 5 g (by omega)
  have bt : ∀ t i, t ≠ 1 → t ≠ 5 → B.a t i = A.a t i := fun t i h1 h5 => by
    rw [← hB, xs_set_ne (fun z => h5 z.1)]
    exact s t i h1
  have et : ∀ t i, t ≠ 1 → t ≠ 9 → A.turn.a t i = (xs_A.go f 4 B).a t i := fun t i h1 h9 => by
    rw [e]
    unfold xs_A.tick
    rw [xs_set_ne (by omega), s2 t i h1]
  refine ⟨?_, ?_, fun g => ?_, fun g hg => ?_, ?_⟩
  · rw [et 10 0 (by omega) (by omega), o.2.1 10 0 (by omega) (by omega) (by omega), bt 10 0 (by omega) (by omega)]
  · rw [e]
    unfold xs_A.tick
    rw [xs_set_eq, s2 9 0 (by omega), o.2.1 9 0 (by omega) (by omega) (by omega), bt 9 0 (by omega) (by omega)]
  · rw [et 5 g (by omega) (by omega), o.2.1 5 g (by omega) (by omega) (by omega)]
    exact b5 g
  · rw [et 4 g (by omega) (by omega), o.2.1 4 g (by omega) (fun _ => hg) (by omega), bt 4 g (by omega) (by omega)]
  · obtain ⟨k, hk, ek⟩ := xd_go4 (r := f) 4 B
    exact ⟨k, hk, by rw [et 4 f (by omega) (by omega), ek, bt 4 f (by omega) (by omega)]⟩
end XI
/-! each fiber's own order -/
def xd_P (A : xs_A) (f : Nat) : Prop := (∃ s, s ≤ 5 ∧ A.a 1 f = nI s) ∧ (A.a 1 f = 5 → A.pl f = A.sc f) ∧ (A.a 1 f = 1 → A.kd f (A.pl f) = 0 ∨ A.kd f (A.pl f) = 6) ∧ (A.a 1 f = 2 → A.kd f (A.pl f) = 1) ∧ ∀ j, j < A.sc f → A.kd f j ≠ 5 → A.a (20 + f) j = 0
def xd_A (A : xs_A) : Prop := ∀ f, f < A.nF → xd_P A f
/-- it is counted: ready, and takes from a channel; sends to it -/
def xd_t (A : xs_A) (c g : Nat) : Bool := decide (A.a 1 g = 0 ∧ A.pl g < A.sc g ∧ A.kd g (A.pl g) = 1 ∧ A.on g (A.pl g) = nI c)
def xd_s (A : xs_A) (c g : Nat) : Bool := decide (A.a 1 g = 0 ∧ A.pl g < A.sc g ∧ (A.kd g (A.pl g) = 0 ∨ A.kd g (A.pl g) = 6) ∧ A.on g (A.pl g) = nI c)
def xd_C (A : xs_A) : Prop := ∀ c, c < A.nC → (A.ls (9 + c) ≠ [] → (A.ls (1 + c)).length ≤ xs_cq (xd_t A c) A.nF 0) ∧ (A.ls (5 + c) ≠ [] → (A.a 8 c).toNatClampNeg ≤ (A.ls (1 + c)).length + xs_cq (xd_s A c) A.nF 0)
/-! counts -/
theorem xd_cq_mono {p q : Nat → Bool} : ∀ (m i : Nat), (∀ g, i ≤ g → g < i + m → p g = true → q g = true) → xs_cq p m i ≤ xs_cq q m i := by
  intro m
  induction m with
  | zero => intro i _; exact Nat.le_refl _
  | succ m ih =>
    intro i h
    have h1 := ih (i + 1) (fun g h1 h2 => h g (by omega) (by omega))
    have h2 := h i (by omega) (by omega)
    unfold xs_cq
    by_cases hp : p i = true
    · rw [if_pos hp, if_pos (h2 hp)]; omega
    · rw [if_neg hp]; omega
theorem xd_cq_one {p q : Nat → Bool} {r : Nat} : ∀ (m i : Nat), (∀ g, i ≤ g → g < i + m → g ≠ r → p g = true → q g = true) → xs_cq p m i ≤ xs_cq q m i + 1 := by
  intro m
  induction m with
  | zero => intro i _; exact Nat.le_succ _
  | succ m ih =>
    intro i h
    have h2 := h i (by omega) (by omega)
    unfold xs_cq
    by_cases hr : i = r
    · have h1 := xd_cq_mono (p := p) (q := q) m (i + 1) (fun g h1 h2 => h g (by omega) (by omega) (by omega))
      split <;> split <;> omega
    · have h1 := ih (i + 1) (fun g h1 h2 => h g (by omega) (by omega))
      by_cases hp : p i = true
      · rw [if_pos hp, if_pos (h2 hr hp)]; omega
      · rw [if_neg hp]; omega
theorem xd_cq_lt {p q : Nat → Bool} {x : Nat} : ∀ (m i : Nat), (∀ g, i ≤ g → g < i + m → p g = true → q g = true) → i ≤ x → x < i + m → p x = false → q x = true → xs_cq p m i + 1 ≤ xs_cq q m i := by
  intro m
  induction m with
  | zero => intro i _ h1 h2; omega
  | succ m ih =>
    intro i h h1 h2 h3 h4
    unfold xs_cq
    by_cases e : i = x
    · subst e
      have h1 := xd_cq_mono (p := p) (q := q) m (i + 1) (fun g h1 h2 => h g (by omega) (by omega))
      rw [h3, h4, if_neg (by decide), if_pos rfl]; omega
    · have h1 := ih (i + 1) (fun g h1 h2 => h g (by omega) (by omega)) (by omega) (by omega) h3 h4
      by_cases hp : p i = true
      · rw [if_pos hp, if_pos (h i (by omega) (by omega) hp)]; omega
      · rw [if_neg hp]; omega
theorem xd_cq_end {p : Nat → Bool} : ∀ (m i : Nat), xs_cq p (m + 1) i = xs_cq p m i + if p (i + m) = true then 1 else 0 := by
  intro m
  induction m with
  | zero => intro i; show (if p i = true then 1 else 0) + 0 = 0 + _; rw [Nat.add_zero, Nat.add_zero, Nat.zero_add]
  | succ m ih =>
    intro i
    unfold xs_cq
    rw [ih (i + 1), show i + 1 + m = i + (m + 1) by omega]
    omega
section XJ
variable {A A' P : xs_A} {r : Nat}
theorem xd_pl (o : xd_ot r A A') {f : Nat} (hf : f ≠ r) : A'.pl f = A.pl f := congrArg Int32.toNatClampNeg (o.2.1 2 f (by omega) (fun _ => hf) (by omega))
theorem xd_P.mk2 {f : Nat} (h : xd_P A f) (o : xd_ot r A A') (hr : f ≠ r) : xd_P A' f := by
  obtain ⟨h1, h2, h3, h4, h5⟩ := h
  obtain ⟨s1, s2, s3, s4, s5, s6⟩ := o.1
  have ep := xd_pl o hr
  have hb : ∀ j, j < A'.sc f → A'.kd f j ≠ 5 → A'.a (20 + f) j = 0 := fun j hj hk => by
    rw [o.2.1 (20 + f) j (by omega) (by omega) (by omega)]
    exact h5 j (by rw [← s3]; exact hj) (by rw [← s4]; exact hk)
  rcases o.2.2 f hr with e | e
  · unfold xd_P
    rw [ep, e]
    refine ⟨h1, fun z => ?_, fun z => ?_, fun z => ?_, hb⟩
    · rw [s3]; exact h2 z
    · rw [s4]; exact h3 z
    · rw [s4]; exact h4 z
  · unfold xd_P
    rw [e]
    exact ⟨⟨0, by omega, rfl⟩, fun z => absurd z (by decide), fun z => absurd z (by decide), fun z => absurd z (by decide), hb⟩
theorem xd_P.ot (h : ∀ f, f < A.nF → xd_P A f) (o : xd_ot r A A') {f : Nat} (hf : f < A.nF) (hr : f ≠ r) : xd_P A' f := xd_P.mk2 (h f hf) o hr
theorem xd_P.mk (s : Nat) (hs : s = 0 ∨ s = 3 ∨ s = 4) (e : A.a 1 r = nI s) (hb : ∀ j, j < A.sc r → A.kd r j ≠ 5 → A.a (20 + r) j = 0) : xd_P A r := by
  unfold xd_P
  rw [e]
  refine ⟨⟨s, by omega, rfl⟩, fun z => ?_, fun z => ?_, fun z => ?_, hb⟩ <;> exfalso <;> rcases hs with rfl | rfl | rfl <;> exact absurd z (by decide)
theorem xd_move_a {t i : Nat} (h2 : t ≠ 2) (h4 : t ≠ 4) : (A.move r).a t i = A.a t i := by
  unfold xs_A.move
  rw [xs_set_ne (fun z => h4 z.1), xs_set_ne (fun z => h2 z.1)]
theorem xd_wake0 {n : Nat} (h0 : A.a 1 r = 0) : (A.wake n).a 1 r = 0 := by
  unfold xs_A.wake
  split
  · exact h0
  · show (xs_A.set (A.setL n _) 1 _ 0).a 1 r = 0
    rename_i x l _
    by_cases e : r = x.toNatClampNeg
    · subst e; exact xs_set_eq
    · rw [xs_set_ne (fun z => e z.2)]; exact h0
theorem xd_actP (h : xd_P A r) (hf : r < A.nF) (h0 : A.a 1 r = 0) : xd_P (A.act r) r := by
  obtain ⟨h1, h2, h3, h4, h5⟩ := h
  have hs : ∀ c v, (A.kd r (A.pl r) = 0 ∨ A.kd r (A.pl r) = 6) → xd_P (A.send r c v) r := fun c v hk => by
    unfold xs_A.send
    split
    · have e1 : (A.wait r 1 (5 + c)).a 1 r = 1 := xs_set_eq (A := A)
      have e2 : (A.wait r 1 (5 + c)).pl r = A.pl r := congrArg Int32.toNatClampNeg (xd_wait_a (by omega))
      unfold xd_P
      rw [e1, e2]
      exact ⟨⟨1, by omega, rfl⟩, fun z => absurd z (by decide), fun _ => hk, fun z => absurd z (by decide), fun j hj hk => (xd_wait_a (by omega)).trans (h5 j hj hk)⟩
    · refine xd_P.mk 0 (by omega) ?_ (fun j hj hk => ?_)
      · rw [xd_move_a (by omega) (by omega)]
        exact xd_wake0 h0
      · rw [xd_move_a (by omega) (by omega)]
        unfold xs_A.put
        rw [xs_wake_a (by omega)]
        have s := xd_ot.put (xd_ot.rf (A := A) (r := r)) c v
        exact h5 j (by have : ((A.put c v).move r).sc = A.sc := s.1.2.2.1; rw [← this]; exact hj) (by have : ((A.put c v).move r).kd = A.kd := s.1.2.2.2.1; rw [← this]; exact hk)
  have mv : ∀ P : xs_A, xd_ot r A P → P.a 1 r = 0 → (∀ j, j < A.sc r → A.kd r j ≠ 5 → P.a (20 + r) j = 0) → xd_P (P.move r) r := fun P o e hb => by
    refine xd_P.mk 0 (by omega) ?_ (fun j hj hk => ?_)
    · rw [xd_move_a (by omega) (by omega)]; exact e
    · rw [xd_move_a (by omega) (by omega)]
      exact hb j (by have := o.1.2.2.1; rw [← this]; exact hj) (by have := o.1.2.2.2.1; rw [← this]; exact hk)
  unfold xs_A.act
  split
  · next hk => exact hs _ _ (Or.inl hk)
  split
  · next _ hk =>
    unfold xs_A.take
    split
    · have e1 : (A.wait r 2 (9 + (A.on r (A.pl r)).toNatClampNeg)).a 1 r = 2 := xs_set_eq (A := A)
      have e2 : (A.wait r 2 (9 + (A.on r (A.pl r)).toNatClampNeg)).pl r = A.pl r := congrArg Int32.toNatClampNeg (xd_wait_a (by omega))
      unfold xd_P
      rw [e1, e2]
      exact ⟨⟨2, by omega, rfl⟩, fun z => absurd z (by decide), fun z => absurd z (by decide), fun _ => hk, fun j hj hk => (xd_wait_a (by omega)).trans (h5 j hj hk)⟩
    · refine mv _ (((xd_ot.rf.setL _ _).set (by omega) _).wake _) (xd_wake0 ?_) (fun j hj hk => ?_)
      · rw [xs_set_ne (by omega)]; exact h0
      · rw [xs_wake_a (by omega), xs_set_ne (by omega)]; exact h5 j hj hk
  split
  · refine xd_P.mk 3 (by omega) ?_ (fun j hj hk => ?_)
    · rw [xd_move_a (by omega) (by omega), xs_set_eq]; rfl
    · rw [xd_move_a (by omega) (by omega), xs_set_ne (by omega), xs_set_ne (by omega)]; exact h5 j hj hk
  split
  · exact mv A xd_ot.rf h0 h5
  split
  · unfold xs_A.join
    split
    · exact mv A xd_ot.rf h0 h5
    · refine xd_P.mk 4 (by omega) ?_ (fun j hj hk => ?_)
      · rw [xs_set_eq]; rfl
      · rw [xs_set_ne (by omega)]; exact h5 j hj hk
  split
  · next hk5 =>
    have hb : ∀ v j, j < A.sc r → A.kd r j ≠ 5 → (A.set (20 + r) (A.pl r) v).a (20 + r) j = 0 := fun v j hj hk => by
      rw [xs_set_ne (fun z => hk (by rw [z.2]; exact hk5))]; exact h5 j hj hk
    unfold xs_A.back
    split
    · exact mv _ (xd_ot.rf.setB _ _) (by rw [xs_set_ne (by omega)]; exact h0) (hb 0)
    · refine xd_P.mk 0 (by omega) ?_ (fun j hj hk => ?_)
      · rw [xs_set_ne (by omega), xs_set_ne (by omega), xs_set_ne (by omega)]; exact h0
      · rw [xs_set_ne (by omega), xs_set_ne (by omega)]; exact hb _ j hj hk
  split
  · next hk => exact hs _ _ (Or.inr hk)
  · exact mv A xd_ot.rf h0 h5
end XJ
section XK
variable {A A' P : xs_A} {r : Nat}
theorem xd_t_iff {c g : Nat} : xd_t A c g = true ↔ A.a 1 g = 0 ∧ A.pl g < A.sc g ∧ A.kd g (A.pl g) = 1 ∧ A.on g (A.pl g) = nI c := decide_eq_true_iff
theorem xd_s_iff {c g : Nat} : xd_s A c g = true ↔ A.a 1 g = 0 ∧ A.pl g < A.sc g ∧ (A.kd g (A.pl g) = 0 ∨ A.kd g (A.pl g) = 6) ∧ A.on g (A.pl g) = nI c := decide_eq_true_iff
/-- who is counted stays so, but for fiber r -/
theorem xd_ot.cnt (o : xd_ot r A A') {c g : Nat} (hg : g ≠ r) : (xd_t A c g = true → xd_t A' c g = true) ∧ (xd_s A c g = true → xd_s A' c g = true) := by
  obtain ⟨s1, s2, s3, s4, s5, s6⟩ := o.1
  have ep := xd_pl o hg
  have e1 : A.a 1 g = 0 → A'.a 1 g = 0 := fun h => (o.2.2 g hg).elim (fun e => e.trans h) id
  rw [xd_t_iff, xd_t_iff, xd_s_iff, xd_s_iff, ep, s3, s4, s5]
  exact ⟨fun h => ⟨e1 h.1, h.2⟩, fun h => ⟨e1 h.1, h.2⟩⟩
/-- fiber r isn't counted at channel c -/
def xd_nt (A : xs_A) (r c : Nat) : Prop := r < A.nF → xd_t A c r = false
def xd_ns (A : xs_A) (r c : Nat) : Prop := r < A.nF → xd_s A c r = false
theorem xd_ot.ct (o : xd_ot r A A') {c : Nat} (h : xd_nt A r c) : ∀ g, 0 ≤ g → g < 0 + A.nF → xd_t A c g = true → xd_t A' c g = true := fun g _ h2 h3 => by
  by_cases e : g = r
  · subst e
    rw [h (by omega)] at h3; cases h3
  · exact (o.cnt e).1 h3
theorem xd_ot.cs (o : xd_ot r A A') {c : Nat} (h : xd_ns A r c) : ∀ g, 0 ≤ g → g < 0 + A.nF → xd_s A c g = true → xd_s A' c g = true := fun g _ h2 h3 => by
  by_cases e : g = r
  · subst e
    rw [h (by omega)] at h3; cases h3
  · exact (o.cnt e).2 h3
/-- a move that leaves the channels as they are -/
theorem xd_C.mono (C : xd_C A) (o : xd_ot r A A') (hl : ∀ n, n ≠ 0 → A'.ls n = A.ls n) (h : ∀ c, xd_nt A r c ∧ xd_ns A r c) : xd_C A' := fun c hc => by
  rw [hl _ (by omega), hl _ (by omega), hl _ (by omega), o.2.1 8 c (by omega) (by omega) (by omega), o.1.2.1]
  have hc : c < A.nC := o.1.1 ▸ hc
  exact ⟨fun z => Nat.le_trans ((C c hc).1 z) (xd_cq_mono _ _ (o.ct (h c).1)), fun z => Nat.le_trans ((C c hc).2 z) (Nat.add_le_add_left (xd_cq_mono _ _ (o.cs (h c).2)) _)⟩
/-- who isn't ready, or at another step, isn't counted -/
theorem xd_nt.of {c : Nat} (h : A.a 1 r ≠ 0 ∨ ¬ A.pl r < A.sc r ∨ A.kd r (A.pl r) ≠ 1 ∨ A.on r (A.pl r) ≠ nI c) : xd_nt A r c := fun _ => by
  rw [← Bool.not_eq_true, xd_t_iff]
  rintro ⟨a, b, c, d⟩
  rcases h with h | h | h | h
  · exact h a
  · exact h b
  · exact h c
  · exact h d
theorem xd_ns.of {c : Nat} (h : A.a 1 r ≠ 0 ∨ ¬ A.pl r < A.sc r ∨ ¬ (A.kd r (A.pl r) = 0 ∨ A.kd r (A.pl r) = 6) ∨ A.on r (A.pl r) ≠ nI c) : xd_ns A r c := fun _ => by
  rw [← Bool.not_eq_true, xd_s_iff]
  rintro ⟨a, b, c, d⟩
  rcases h with h | h | h | h
  · exact h a
  · exact h b
  · exact h c
  · exact h d
theorem xd_wake_ls {n m : Nat} (h0 : m ≠ 0) : (A.wake n).ls m = if m = n then (A.ls n).tail else A.ls m := by
  unfold xs_A.wake
  split
  · next h =>
    split
    · next e => rw [e, h]; rfl
    · rfl
  · next x l h =>
    show ((xs_A.set (A.setL n l) 1 _ 0).setL 0 _).ls m = _
    rw [xs_setL_ne h0]
    show (A.setL n l).ls m = _
    split
    · next e => rw [e, xs_setL_eq, h]; rfl
    · next e => rw [xs_setL_ne e]
theorem xd_wake_hd {n : Nat} {x : Int32} {l : List Int32} (h : A.ls n = x :: l) : (A.wake n).a 1 x.toNatClampNeg = 0 := by
  unfold xs_A.wake
  rw [h]
  exact xs_set_eq (A := A.setL n l)
/-- a drop comes to a channel: by hand, or fiber r sends it -/
theorem xd_C.put (C : xd_C A) (w : xs_W A r) (ia : xd_A A) (o : xd_ot r A A') {c : Nat} (hc : c < A.nC) {v : Int32} (hl : ∀ n, n ≠ 0 → A'.ls n = (A.put c v).ls n) (h1 : ∀ x, x ≠ r → (A.put c v).a 1 x = 0 → A'.a 1 x = 0) (hr : ∀ g, g < A.nF → g = r → A.a 1 g ≠ 2) (nt : ∀ d, xd_nt A r d) (ns : ∀ d, d < A.nC → d ≠ c → xd_ns A r d) : xd_C A' := fun d hd => by
  have hd : d < A.nC := o.1.1 ▸ hd
  have hs := w.1
  rw [hl _ (by omega), hl _ (by omega), hl _ (by omega), o.2.1 8 d (by omega) (by omega) (by omega), o.1.2.1]
  unfold xs_A.put
  rw [xd_wake_ls (by omega), xd_wake_ls (by omega), xd_wake_ls (by omega), if_neg (show ¬ 1 + d = 9 + c by have := hs.1; omega), if_neg (show ¬ 5 + d = 9 + c by have := hs.1; omega)]
  have e9 : (A.setL (1 + c) (A.ls (1 + c) ++ [v])).ls (9 + c) = A.ls (9 + c) := xs_setL_ne (by omega)
  have e9d : (A.setL (1 + c) (A.ls (1 + c) ++ [v])).ls (9 + d) = A.ls (9 + d) := xs_setL_ne (by have := hs.1; omega)
  have e5 : (A.setL (1 + c) (A.ls (1 + c) ++ [v])).ls (5 + d) = A.ls (5 + d) := xs_setL_ne (by have := hs.1; omega)
  rw [e9, e9d, e5]
  have mt := xd_cq_mono A.nF 0 (o.ct (nt d))
  obtain ⟨C1, C2⟩ := C d hd
  by_cases e : d = c
  · subst e
    rw [if_pos rfl, xs_setL_eq, List.length_append]
    refine ⟨fun z => ?_, fun z => ?_⟩
    · cases h : A.ls (9 + d) with
      | nil => rw [h] at z; exact absurd rfl z
      | cons x l =>
        have hm := w.2.2.2.2.2 (9 + d) (xs_fL hd).2
        obtain ⟨g, hg, hx⟩ := hm.1.2 x (by rw [h]; exact List.mem_cons_self)
        have hat := (hm.2 g hg).mp (by rw [h, hx]; exact List.mem_cons_self)
        unfold xs_A.at at hat
        rw [if_neg (by omega), if_neg (by omega), show 9 + d - 9 = d by omega] at hat
        have hgr : g ≠ r := fun e => hr g hg e hat.1
        have hw := w.2.2.2.1 g hg (Or.inr (Or.inl hat.1))
        have hk := (ia g hg).2.2.2.1 hat.1
        have f1 : xd_t A d g = false := by
          rw [← Bool.not_eq_true, xd_t_iff]
          exact fun z => absurd (hat.1.symm.trans z.1) (by decide)
        have hg8 := hs.2.1
        have f2 : xd_t A' d g = true := by
          rw [xd_t_iff, xd_pl o hgr, o.1.2.2.1, o.1.2.2.2.1, o.1.2.2.2.2.1]
          refine ⟨h1 g hgr ?_, hw, hk, hat.2⟩
          unfold xs_A.put
          have := xd_wake_hd (A := A.setL (1 + d) (A.ls (1 + d) ++ [v])) (n := 9 + d) (x := x) (l := l) (e9.trans h)
          rw [hx, nI_clamp (by omega)] at this
          exact this
        have := xd_cq_lt A.nF 0 (o.ct (nt d)) (Nat.zero_le g) (by omega) f1 f2
        have := C1 (by rw [h]; exact List.cons_ne_nil _ _)
        show (A.ls (1 + d)).length + 1 ≤ _
        omega
    · have h2 := xd_cq_one (p := xd_s A d) (q := xd_s A' d) (r := r) A.nF 0 (fun g _ _ h => (o.cnt h).2)
      have := C2 z
      show _ ≤ (A.ls (1 + d)).length + 1 + _
      omega
  · have e1 : (A.setL (1 + c) (A.ls (1 + c) ++ [v])).ls (1 + d) = A.ls (1 + d) := xs_setL_ne (by omega)
    rw [if_neg (by omega), e1]
    have ms := xd_cq_mono A.nF 0 (o.cs (ns d hd e))
    exact ⟨fun z => Nat.le_trans (C1 z) mt, fun z => Nat.le_trans (C2 z) (Nat.add_le_add_left ms _)⟩
/-- fiber r takes a drop -/
theorem xd_C.take (C : xd_C A) (w : xs_W A r) (ia : xd_A A) (o : xd_ot r A A') {c : Nat} (hc : c < A.nC) {v : Int32} {l : List Int32} (he : A.ls (1 + c) = v :: l) (hl : ∀ n, n ≠ 0 → A'.ls n = ((A.setL (1 + c) l).wake (5 + c)).ls n) (h1 : ∀ x, x ≠ r → ((A.setL (1 + c) l).wake (5 + c)).a 1 x = 0 → A'.a 1 x = 0) (hr : ∀ g, g < A.nF → g = r → A.a 1 g ≠ 1) (ns : ∀ d, xd_ns A r d) (nt : ∀ d, d < A.nC → d ≠ c → xd_nt A r d) : xd_C A' := fun d hd => by
  have hd : d < A.nC := o.1.1 ▸ hd
  have hs := w.1
  rw [hl _ (by omega), hl _ (by omega), hl _ (by omega), o.2.1 8 d (by omega) (by omega) (by omega), o.1.2.1]
  rw [xd_wake_ls (by omega), xd_wake_ls (by omega), xd_wake_ls (by omega), if_neg (show ¬ 1 + d = 5 + c by have := hs.1; omega), if_neg (show ¬ 9 + d = 5 + c by have := hs.1; omega)]
  have e5 : (A.setL (1 + c) l).ls (5 + c) = A.ls (5 + c) := xs_setL_ne (by omega)
  have e9d : (A.setL (1 + c) l).ls (9 + d) = A.ls (9 + d) := xs_setL_ne (by have := hs.1; omega)
  have e5d : (A.setL (1 + c) l).ls (5 + d) = A.ls (5 + d) := xs_setL_ne (by have := hs.1; omega)
  rw [e5, e9d, e5d]
  have ms := xd_cq_mono A.nF 0 (o.cs (ns d))
  obtain ⟨C1, C2⟩ := C d hd
  by_cases e : d = c
  · subst e
    rw [if_pos rfl, xs_setL_eq]
    rw [he] at C1 C2
    have C1 : A.ls (9 + d) ≠ [] → l.length + 1 ≤ _ := C1
    have C2 : A.ls (5 + d) ≠ [] → _ ≤ l.length + 1 + _ := C2
    refine ⟨fun z => ?_, fun z => ?_⟩
    · have h2 := xd_cq_one (p := xd_t A d) (q := xd_t A' d) (r := r) A.nF 0 (fun g _ _ h => (o.cnt h).1)
      have := C1 z
      omega
    · cases h : A.ls (5 + d) with
      | nil => rw [h] at z; exact absurd rfl z
      | cons x l2 =>
        have hm := w.2.2.2.2.2 (5 + d) (xs_fL hd).1
        obtain ⟨g, hg, hx⟩ := hm.1.2 x (by rw [h]; exact List.mem_cons_self)
        have hat := (hm.2 g hg).mp (by rw [h, hx]; exact List.mem_cons_self)
        unfold xs_A.at at hat
        rw [if_neg (by omega), if_pos (by have := hs.1; omega), show 5 + d - 5 = d by omega] at hat
        have hgr : g ≠ r := fun e => hr g hg e hat.1
        have hw := w.2.2.2.1 g hg (Or.inl hat.1)
        have hk := (ia g hg).2.2.1 hat.1
        have f1 : xd_s A d g = false := by
          rw [← Bool.not_eq_true, xd_s_iff]
          exact fun z => absurd (hat.1.symm.trans z.1) (by decide)
        have hg8 := hs.2.1
        have f2 : xd_s A' d g = true := by
          rw [xd_s_iff, xd_pl o hgr, o.1.2.2.1, o.1.2.2.2.1, o.1.2.2.2.2.1]
          refine ⟨h1 g hgr ?_, hw, hk, hat.2⟩
          have := xd_wake_hd (A := A.setL (1 + d) l) (n := 5 + d) (x := x) (l := l2) (e5.trans h)
          rw [hx, nI_clamp (by omega)] at this
          exact this
        have := xd_cq_lt A.nF 0 (o.cs (ns d)) (Nat.zero_le g) (by omega) f1 f2
        have := C2 (by rw [h]; exact List.cons_ne_nil _ _)
        omega
  · have e1 : (A.setL (1 + c) l).ls (1 + d) = A.ls (1 + d) := xs_setL_ne (by omega)
    rw [if_neg (by omega), e1]
    have mt := xd_cq_mono A.nF 0 (o.ct (nt d hd e))
    exact ⟨fun z => Nat.le_trans (C1 z) mt, fun z => Nat.le_trans (C2 z) (Nat.add_le_add_left ms _)⟩
end XK
section XL
variable {A A' P : xs_A} {r : Nat}
/-- both: each fiber's order, and who is counted -/
def xd_B (A : xs_A) : Prop := xd_A A ∧ xd_C A
theorem xd_A.ot (h : xd_A A) (o : xd_ot r A A') (hr : r < A.nF → xd_P A' r) : xd_A A' := fun f hf => by
  have hf : f < A.nF := o.1.2.1 ▸ hf
  by_cases e : f = r
  · subst e; exact hr hf
  · exact xd_P.ot h o hf e
/-- a scalar set before or after one wakes -/
theorem xd_set_comm {t i t' i' : Nat} {v v' : Int32} (h : ¬ (t = t' ∧ i = i')) : (A.set t i v).set t' i' v' = (A.set t' i' v').set t i v := by
  unfold xs_A.set
  refine congrArg (fun f => (A.nC, A.nF, A.sc, A.kd, A.on, A.tw, f, A.ls)) ?_
  funext u j
  show (if u = t' ∧ j = i' then v' else if u = t ∧ j = i then v else A.a u j) = if u = t ∧ j = i then v else if u = t' ∧ j = i' then v' else A.a u j
  by_cases h1 : u = t' ∧ j = i'
  · rw [if_pos h1, if_neg (fun z => h ⟨z.1.symm.trans h1.1, z.2.symm.trans h1.2⟩), if_pos h1]
  · rw [if_neg h1, if_neg h1]
theorem xd_set_wake {t i n : Nat} {v : Int32} (h : t ≠ 1) : (A.set t i v).wake n = (A.wake n).set t i v := by
  unfold xs_A.wake
  rw [show (A.set t i v).ls n = A.ls n from rfl]
  cases A.ls n with
  | nil => rfl
  | cons x l =>
    show (((A.setL n l).set t i v).set 1 x.toNatClampNeg 0).setL 0 _ = (((A.setL n l).set 1 x.toNatClampNeg 0).setL 0 _).set t i v
    rw [xd_set_comm (fun z => h z.1)]
    rfl
theorem xd_nc (h : A.a 1 r ≠ 0 ∨ ¬ A.pl r < A.sc r ∨ A.kd r (A.pl r) ≠ 0 ∧ A.kd r (A.pl r) ≠ 1 ∧ A.kd r (A.pl r) ≠ 6) : ∀ c, xd_nt A r c ∧ xd_ns A r c := fun c => by
  rcases h with h | h | ⟨h1, h2, h3⟩
  · exact ⟨xd_nt.of (Or.inl h), xd_ns.of (Or.inl h)⟩
  · exact ⟨xd_nt.of (Or.inr (Or.inl h)), xd_ns.of (Or.inr (Or.inl h))⟩
  · exact ⟨xd_nt.of (Or.inr (Or.inr (Or.inl h2))), xd_ns.of (Or.inr (Or.inr (Or.inl (fun z => z.elim h1 h3))))⟩
theorem xd_actC (C : xd_C A) (w : xs_W A r) (ia : xd_A A) (hf : r < A.nF) (h0 : A.a 1 r = 0) (hp : A.pl r < A.sc r) : xd_C (A.act r) := by
  have hs4 := w.1.1
  obtain ⟨z1, z2, z3, z4⟩ := w.2.1 r (A.pl r) hf hp
  have mv : ∀ P : xs_A, xd_ot r A P → P.ls = A.ls → (∀ c, xd_nt A r c ∧ xd_ns A r c) → xd_C (P.move r) := fun P o e h => C.mono o.move (fun n _ => by show P.ls n = _; rw [e]) h
  have hs : ∀ v, (A.kd r (A.pl r) = 0 ∨ A.kd r (A.pl r) = 6) → xd_C (A.send r (A.on r (A.pl r)).toNatClampNeg v) := fun v hk => by
    obtain ⟨c, hc, ho⟩ := z1 (hk.elim Or.inl (fun z => Or.inr (Or.inr z)))
    rw [ho, nI_clamp (by omega)]
    have nt : ∀ d, xd_nt A r d := fun d => xd_nt.of (Or.inr (Or.inr (Or.inl (fun z => by rcases hk with hk | hk <;> rw [hk] at z <;> exact absurd z (by decide)))))
    have ns : ∀ d, d < A.nC → d ≠ c → xd_ns A r d := fun d hd e => xd_ns.of (Or.inr (Or.inr (Or.inr (fun z => e ((nI_eq (by omega) (by omega)).mp (z.symm.trans ho))))))
    unfold xs_A.send
    split
    · next hfull =>
      have o : xd_ot r A (A.wait r 1 (5 + c)) := xd_ot.rf.wait _ _
      intro d hd
      have hd : d < A.nC := hd
      have l5 : (A.wait r 1 (5 + c)).ls (5 + d) = if d = c then A.ls (5 + c) ++ [nI r] else A.ls (5 + d) := by
        show (if 5 + d = 5 + c then _ else (A.set 1 r 1).ls (5 + d)) = _
        by_cases e : d = c
        · rw [if_pos (by omega), if_pos e]
        · rw [if_neg (by omega), if_neg e]; rfl
      have l9 : (A.wait r 1 (5 + c)).ls (9 + d) = A.ls (9 + d) := if_neg (by omega)
      have l1 : (A.wait r 1 (5 + c)).ls (1 + d) = A.ls (1 + d) := if_neg (by omega)
      rw [l5, l9, l1, xd_wait_a (by omega)]
      refine ⟨fun z => Nat.le_trans ((C d hd).1 z) (xd_cq_mono _ _ (o.ct (nt d))), fun z => ?_⟩
      by_cases e : d = c
      · subst e
        have := (w.full hd).1.mp hfull
        omega
      · rw [if_neg e] at z
        exact Nat.le_trans ((C d hd).2 z) (Nat.add_le_add_left (xd_cq_mono _ _ (o.cs (ns d hd e))) _)
    · exact xd_C.put C w ia (xd_ot.rf.put _ _).move hc (v := v) (fun n _ => rfl) (fun x hx h => by rw [xd_move_a (by omega) (by omega)]; exact h) (fun g _ e => by rw [e, h0]; decide) nt ns
  unfold xs_A.act
  split
  · next hk => exact hs _ (Or.inl hk)
  split
  · next hk0 hk =>
    obtain ⟨c, hc, ho⟩ := z1 (Or.inr (Or.inl hk))
    rw [ho, nI_clamp (by omega)]
    have ns : ∀ d, xd_ns A r d := fun d => xd_ns.of (Or.inr (Or.inr (Or.inl (fun z => by rcases z with z | z <;> rw [hk] at z <;> exact absurd z (by decide)))))
    have nt : ∀ d, d < A.nC → d ≠ c → xd_nt A r d := fun d hd e => xd_nt.of (Or.inr (Or.inr (Or.inr (fun z => e ((nI_eq (by omega) (by omega)).mp (z.symm.trans ho))))))
    unfold xs_A.take
    split
    · next he =>
      have o : xd_ot r A (A.wait r 2 (9 + c)) := xd_ot.rf.wait _ _
      intro d hd
      have hd : d < A.nC := hd
      have l9 : (A.wait r 2 (9 + c)).ls (9 + d) = if d = c then A.ls (9 + c) ++ [nI r] else A.ls (9 + d) := by
        show (if 9 + d = 9 + c then _ else (A.set 1 r 2).ls (9 + d)) = _
        by_cases e : d = c
        · rw [if_pos (by omega), if_pos e]
        · rw [if_neg (by omega), if_neg e]; rfl
      have l5 : (A.wait r 2 (9 + c)).ls (5 + d) = A.ls (5 + d) := if_neg (by omega)
      have l1 : (A.wait r 2 (9 + c)).ls (1 + d) = A.ls (1 + d) := if_neg (by omega)
      rw [l5, l9, l1, xd_wait_a (by omega)]
      refine ⟨fun z => ?_, fun z => Nat.le_trans ((C d hd).2 z) (Nat.add_le_add_left (xd_cq_mono _ _ (o.cs (ns d))) _)⟩
      by_cases e : d = c
      · subst e
        rw [he]; exact Nat.zero_le _
      · rw [if_neg e] at z
        exact Nat.le_trans ((C d hd).1 z) (xd_cq_mono _ _ (o.ct (nt d hd e)))
    · next v l he =>
      have o : xd_ot r A (((((A.setL (1 + c) l).set 3 r (A.a 3 r + v)).wake (5 + c))).move r) := (((xd_ot.rf.setL _ _).set (by omega) _).wake _).move
      have e9 : ∀ n, ((A.setL (1 + c) l).set 3 r (A.a 3 r + v)).wake n = ((A.setL (1 + c) l).wake n).set 3 r (A.a 3 r + v) := fun n => xd_set_wake (by omega)
      rw [e9] at o ⊢
      exact xd_C.take C w ia o hc he (fun n _ => rfl) (fun x hx h => by rw [xd_move_a (by omega) (by omega), xs_set_ne (by omega)]; exact h) (fun g _ e => by rw [e, h0]; decide) ns nt
  split
  · next k0 k1 k2 =>
    refine C.mono (r := r) ((xd_ot.rf.set (by omega) _).set (by omega) _).move (fun n _ => rfl) (xd_nc (Or.inr (Or.inr ⟨k0, k1, by rw [k2]; decide⟩)))
  split
  · next k0 k1 _ k3 => exact mv A xd_ot.rf rfl (xd_nc (Or.inr (Or.inr ⟨k0, k1, by rw [k3]; decide⟩)))
  split
  · next k0 k1 _ _ k4 =>
    have nc := xd_nc (A := A) (r := r) (Or.inr (Or.inr ⟨k0, k1, by rw [k4]; decide⟩))
    unfold xs_A.join
    split
    · exact mv A xd_ot.rf rfl nc
    · exact C.mono (r := r) (xd_ot.rf.set (by omega) _) (fun n _ => rfl) nc
  split
  · next k0 k1 _ _ _ k5 =>
    have nc := xd_nc (A := A) (r := r) (Or.inr (Or.inr ⟨k0, k1, by rw [k5]; decide⟩))
    unfold xs_A.back
    split
    · exact mv _ (xd_ot.rf.setB _ _) rfl nc
    · exact C.mono (r := r) (((xd_ot.rf.setB _ _).set (by omega) _).set (by omega) _) (fun n _ => rfl) nc
  split
  · next hk => exact hs _ (Or.inr hk)
  · next k0 k1 _ _ _ _ k6 => exact mv A xd_ot.rf rfl (xd_nc (Or.inr (Or.inr ⟨k0, k1, k6⟩)))
theorem xd_B.act (b : xd_B A) (w : xs_W A r) (hf : r < A.nF) (h0 : A.a 1 r = 0) (hp : A.pl r < A.sc r) : xd_B (A.act r) := ⟨b.1.ot xd_ot.act (fun _ => xd_actP (b.1 r hf) hf h0), xd_actC b.2 w b.1 hf h0 hp⟩
theorem xd_B.go : ∀ (n : Nat) (A : xs_A), xd_B A → xs_W A r → r < A.nF → A.a 1 r = 0 → xd_B (xs_A.go r n A) := by
  intro n
  induction n with
  | zero => intro A b _ _ _; exact b
  | succ n ih =>
    intro A b w hf h0
    unfold xs_A.go
    split
    · exact b
    · next hle =>
      obtain ⟨p1, p2, p3⟩ := w.pl hf
      have hp : A.pl r < A.sc r := by
        rw [p1] at hle
        exact Nat.lt_of_not_le (fun z => hle (nI_le z (by omega)))
      have b1 := b.act w hf h0 hp
      split
      · exact b1
      · next hs =>
        have w1 := w.act hf h0 hp
        exact ih _ b1 w1.1 (by rw [w1.2.2.1]; exact hf) (by
          by_cases e : (A.act r).a 1 r = 0
          · exact e
          · exact absurd (Or.inr e) hs)
theorem xd_B.ready (b : xd_B A) {x : Nat} (hx : A.a 1 x ≠ 0) (h8 : A.nF ≤ 8) (hlt : x < A.nF) : xd_B (A.ready x) :=
  have o : xd_ot x A (A.ready x) := xd_ot.rf.ready x
  ⟨b.1.ot o (fun hx2 => xd_P.mk 0 (by omega) (xs_set_eq (A := A)) (fun j hj hk => by
    have e : (A.ready x).a (20 + x) j = A.a (20 + x) j := xs_set_ne (A := A) (by omega)
    rw [e]
    exact (b.1 x hlt).2.2.2.2 j hj hk)), b.2.mono o (fun n hn => xs_setL_ne hn) (xd_nc (Or.inl hx))⟩
theorem xd_B.joins {f : Nat} : ∀ (m i : Nat) (A : xs_A), xd_B A → A.nF ≤ 8 → i + m ≤ A.nF → xd_B (xs_A.joins f m i A) := by
  intro m
  induction m with
  | zero => intro i A b _ _; exact b
  | succ m ih =>
    intro i A b h8 hi
    unfold xs_A.joins
    split
    · next h4 =>
      split
      · exact ih _ _ (b.ready (by rw [h4]; decide) h8 (by omega)) h8 (by show i + 1 + m ≤ A.nF; omega)
      · exact ih _ _ b h8 (by omega)
    · exact ih _ _ b h8 (by omega)
theorem xd_B.rise : ∀ (m i : Nat) (A : xs_A), xd_B A → A.nF ≤ 8 → i + m ≤ A.nF → xd_B (xs_A.rise m i A) := by
  intro m
  induction m with
  | zero => intro i A b _ _; exact b
  | succ m ih =>
    intro i A b h8 hi
    unfold xs_A.rise
    split
    · next h4 =>
      split
      · exact ih _ _ (b.ready (by rw [h4]; decide) h8 (by omega)) h8 (by show i + 1 + m ≤ A.nF; omega)
      · exact ih _ _ b h8 (by omega)
    · exact ih _ _ b h8 (by omega)
theorem xd_B.same (b : xd_B A) (o : xd_ot A.nF A A') (hl : ∀ n, n ≠ 0 → A'.ls n = A.ls n) : xd_B A' := ⟨b.1.ot o (fun z => absurd z (Nat.lt_irrefl _)), b.2.mono o hl (fun c => ⟨fun z => absurd z (Nat.lt_irrefl _), fun z => absurd z (Nat.lt_irrefl _)⟩)⟩
theorem xd_B.fin (b : xd_B A) (w : xs_W A r) (hf : r < A.nF) : xd_B (A.fin r) := by
  have h8 := w.1.2.1
  unfold xs_A.fin
  split
  · next h0 =>
    split
    · next hle =>
      obtain ⟨p1, p2, p3⟩ := w.pl hf
      rw [p1] at hle
      have hp := Nat.le_of_not_lt (fun z => nI_ge z (by omega) hle)
      have o : xd_ot r A (A.set 1 r 5) := xd_ot.rf.set (by omega) _
      obtain ⟨h1, h2, h3, h4, h5⟩ := b.1 r hf
      refine xd_B.joins _ _ _ ⟨b.1.ot o (fun _ => ?_), b.2.mono o (fun _ _ => rfl) (xd_nc (Or.inr (Or.inl (by omega))))⟩ h8 (by show 0 + A.nF ≤ A.nF; omega)
      have e : (A.set 1 r 5).a 1 r = 5 := xs_set_eq
      unfold xd_P
      rw [e]
      exact ⟨⟨5, by omega, rfl⟩, fun _ => by show A.pl r = A.sc r; omega, fun z => absurd z (by decide), fun z => absurd z (by decide), fun j hj hk => (xs_set_ne (by omega)).trans (h5 j hj hk)⟩
    · exact b.same (xd_ot.rf.setL _ _) (fun n hn => xs_setL_ne hn)
  · exact b
theorem xd_B.scal (b : xd_B A) {t i : Nat} {v : Int32} (ht : t = 5 ∨ t = 9 ∨ t = 10) : xd_B (A.set t i v) := by
  have e : ∀ u j, u ≠ t → (A.set t i v).a u j = A.a u j := fun u j h => xs_set_ne (fun z => h z.1)
  have ep : ∀ g, (A.set t i v).pl g = A.pl g := fun g => congrArg Int32.toNatClampNeg (e 2 g (by omega))
  refine ⟨fun f hf => ?_, fun c hc => ?_⟩
  · obtain ⟨h1, h2, h3, h4, h5⟩ := b.1 f hf
    unfold xd_P
    rw [e 1 f (by omega), ep]
    exact ⟨h1, h2, h3, h4, fun j hj hk => (e _ _ (by omega)).trans (h5 j hj hk)⟩
  · have e1 : xd_t (A.set t i v) c = xd_t A c := funext fun g => by
      unfold xd_t
      rw [e 1 g (by omega), ep]
      rfl
    have e2 : xd_s (A.set t i v) c = xd_s A c := funext fun g => by
      unfold xd_s
      rw [e 1 g (by omega), ep]
      rfl
    rw [e1, e2, e 8 c (by omega)]
    exact b.2 c hc
theorem xd_B.turn (b : xd_B A) (w : xs_W A 99) : xd_B A.turn := by
  have h8 := w.1.2.1
  have w1 := xs_W.rise A.nF 0 A w (by omega)
  have b1 := xd_B.rise A.nF 0 A b h8 (by omega)
  unfold xs_A.turn
  split
  · exact (b1.scal (by omega)).scal (by omega)
  · next x l he =>
    obtain ⟨f, hf, hx, h0, w2⟩ := w1.1.work he
    have hf8 : f < A.nF := by rw [← w1.2.2.1]; exact hf
    rw [hx, nI_clamp (by omega)]
    have b2 : xd_B (((xs_A.rise A.nF 0 A).setL 0 l).set 5 f ((xs_A.rise A.nF 0 A).a 5 f + 1)) := (b1.same (xd_ot.rf.setL 0 l) (fun n hn => xs_setL_ne hn)).scal (by omega)
    have w3 : xs_W (((xs_A.rise A.nF 0 A).setL 0 l).set 5 f ((xs_A.rise A.nF 0 A).a 5 f + 1)) f := w2.scal (by omega)
    have b3 := xd_B.go 4 _ b2 w3 hf ((xs_set_ne (by omega)).trans h0)
    have w4 := xs_W.go 4 _ w3 hf ((xs_set_ne (by omega)).trans h0)
    exact (b3.fin w4.1 (by rw [w4.2.2.1]; exact hf)).scal (by omega)
end XL
section XM
variable {A A' P : xs_A} {r : Nat}
theorem xd_B.put (b : xd_B A) (w : xs_W A 99) {c : Nat} (hc : c < A.nC) {v : Int32} : xd_B (A.put c v) := by
  have h8 := w.1.2.1
  have o : xd_ot 99 A (A.put c v) := xd_ot.rf.put _ _
  exact ⟨b.1.ot o (fun z => absurd z (by omega)), xd_C.put b.2 w b.1 o hc (fun n _ => rfl) (fun x _ h => h) (fun g hg e => by omega) (fun d z => absurd z (by omega)) (fun d _ _ z => absurd z (by omega))⟩
theorem xd_B.addC (b : xd_B A) (w : xs_W A 99) (fa : xs_fresh A) (h4 : A.nC < 4) {p : Nat} : xd_B (A.addC p) := by
  have e : ∀ u j, u ≠ 8 → (A.addC p).a u j = A.a u j := fun u j h => xs_set_ne (A := A) (fun z => h z.1)
  have ep : ∀ g, (A.addC p).pl g = A.pl g := fun g => congrArg Int32.toNatClampNeg (e 2 g (by omega))
  refine ⟨fun f hf => ?_, fun c hc => ?_⟩
  · obtain ⟨h1, h2, h3, h4, h5⟩ := b.1 f hf
    unfold xd_P
    rw [e 1 f (by omega), ep]
    exact ⟨h1, h2, h3, h4, fun j hj hk => (e _ _ (by omega)).trans (h5 j hj hk)⟩
  · have hc : c < A.nC + 1 := hc
    by_cases h : c < A.nC
    · have e1 : xd_t (A.addC p) c = xd_t A c := funext fun g => by
        unfold xd_t
        rw [e 1 g (by omega), ep]
        rfl
      have e2 : xd_s (A.addC p) c = xd_s A c := funext fun g => by
        unfold xd_s
        rw [e 1 g (by omega), ep]
        rfl
      rw [e1, e2, show (A.addC p).a 8 c = A.a 8 c from xs_set_ne (A := A) (by omega)]
      exact b.2 c h
    · have h3 := fa.2.2 c (by omega) (by omega)
      exact ⟨fun z => absurd h3.2.2.2 z, fun z => absurd h3.2.2.1 z⟩
theorem xd_B.addF (b : xd_B A) (fa : xs_fresh A) (h8 : A.nF < 8) : xd_B A.addF := by
  obtain ⟨f1, f2, f3⟩ := fa.1 A.nF (Nat.le_refl _) h8
  refine ⟨fun f hf => ?_, fun c hc => ?_⟩
  · have hf : f < A.nF + 1 := hf
    by_cases h : f < A.nF
    · exact b.1 f h
    · have e : f = A.nF := by omega
      subst e
      have e1 : A.addF.a 1 A.nF = 5 := f1
      have e2 : A.addF.pl A.nF = A.sc A.nF := by rw [f3]; exact congrArg Int32.toNatClampNeg (f2 2 (by omega) (by omega))
      have e3 : A.addF.sc A.nF = 0 := f3
      unfold xd_P
      rw [e1]
      exact ⟨⟨5, by omega, rfl⟩, fun _ => e2, fun z => absurd z (by decide), fun z => absurd z (by decide), fun j hj => absurd hj (by omega)⟩
  · have e1 : ∀ p : Nat → Bool, xs_cq p A.nF 0 ≤ xs_cq p (A.nF + 1) 0 := fun p => by rw [xd_cq_end]; omega
    exact ⟨fun z => Nat.le_trans ((b.2 c hc).1 z) (e1 (xd_t A c)), fun z => Nat.le_trans ((b.2 c hc).2 z) (Nat.add_le_add_left (e1 (xd_s A c)) _)⟩
theorem xd_B.grown (b : xd_B A) (w : xs_W A 99) (fa : xs_fresh A) {f : Nat} (hf : f < A.nF) {k o t : Int32} (hc : A.sc f < 12) : xd_B (A.grown f k o t) := by
  have h8 := w.1.2.1
  have es : ∀ g, g ≠ f → (A.addS f k o t).sc g = A.sc g := fun g h => if_neg h
  have e9 : (A.addS f k o t).sc f = A.sc f + 1 := if_pos rfl
  have ek : ∀ g j, g ≠ f ∨ j < A.sc f → (A.addS f k o t).kd g j = A.kd g j ∧ (A.addS f k o t).on g j = A.on g j := fun g j h => ⟨if_neg (fun z => h.elim (fun e => e z.1) (by omega)), if_neg (fun z => h.elim (fun e => e z.1) (by omega))⟩
  have hb : ∀ g j, g < A.nF → j < (A.addS f k o t).sc g → (A.addS f k o t).kd g j ≠ 5 → A.a (20 + g) j = 0 := fun g j hg hj hk => by
    by_cases h : g ≠ f ∨ j < A.sc f
    · rw [(ek g j h).1] at hk
      refine (b.1 g hg).2.2.2.2 j ?_ hk
      by_cases e : g = f
      · subst e; exact h.elim (fun z => absurd rfl z) id
      · rw [es g e] at hj; exact hj
    · have e : g = f := Classical.byContradiction (fun z => h (Or.inl z))
      subst e
      exact fa.2.1 g j (by omega) (by omega) (by rw [e9] at hj; omega)
  have P0 : ∀ g, g < A.nF → A.a 1 g ≠ 5 ∨ g ≠ f → xd_P (A.addS f k o t) g := fun g hg h => by
    obtain ⟨h1, h2, h3, h4, h5⟩ := b.1 g hg
    have hw := w.2.2.2.1 g hg
    have lk : A.a 1 g = 1 ∨ A.a 1 g = 2 → (A.addS f k o t).kd g (A.pl g) = A.kd g (A.pl g) := fun z => (ek g (A.pl g) (by
      by_cases e : g = f
      · subst e; exact Or.inr (hw (z.elim Or.inl (fun z => Or.inr (Or.inl z))))
      · exact Or.inl e)).1
    refine ⟨h1, fun z => ?_, fun z => ?_, fun z => ?_, fun j hj hk => hb g j hg hj hk⟩
    · have e : g ≠ f := h.elim (fun e => absurd z e) id
      rw [es g e]; exact h2 z
    · show (A.addS f k o t).kd g (A.pl g) = 0 ∨ (A.addS f k o t).kd g (A.pl g) = 6
      rw [lk (Or.inl z)]; exact h3 z
    · show (A.addS f k o t).kd g (A.pl g) = 1
      rw [lk (Or.inr z)]; exact h4 z
  have od : ∀ g, A.pl g < A.sc g → (g ≠ f ∨ A.pl g < A.sc f) ∧ (A.addS f k o t).pl g < (A.addS f k o t).sc g := fun g b => by
    by_cases e : g = f
    · subst e
      refine ⟨Or.inr b, ?_⟩
      show A.pl g < (A.addS g k o t).sc g
      rw [e9]; omega
    · refine ⟨Or.inl e, ?_⟩
      show A.pl g < (A.addS f k o t).sc g
      rw [es g e]; exact b
  have mt : ∀ c g, xd_t A c g = true → xd_t (A.addS f k o t) c g = true := fun c g h => by
    rw [xd_t_iff] at h ⊢
    obtain ⟨a, b, c1, d⟩ := h
    have e := ek g (A.pl g) (od g b).1
    exact ⟨a, (od g b).2, e.1.trans c1, e.2.trans d⟩
  have ms : ∀ c g, xd_s A c g = true → xd_s (A.addS f k o t) c g = true := fun c g h => by
    rw [xd_s_iff] at h ⊢
    obtain ⟨a, b, c1, d⟩ := h
    have e := ek g (A.pl g) (od g b).1
    refine ⟨a, (od g b).2, ?_, e.2.trans d⟩
    show (A.addS f k o t).kd g (A.pl g) = 0 ∨ (A.addS f k o t).kd g (A.pl g) = 6
    rw [e.1]; exact c1
  have C1 : xd_C (A.addS f k o t) := fun c hc => ⟨fun z => Nat.le_trans ((b.2 c hc).1 z) (xd_cq_mono _ _ (fun g _ _ h => mt c g h)), fun z => Nat.le_trans ((b.2 c hc).2 z) (Nat.add_le_add_left (xd_cq_mono _ _ (fun g _ _ h => ms c g h)) _)⟩
  unfold xs_A.grown
  split
  · next h5 =>
    have oo : xd_ot f (A.addS f k o t) ((A.addS f k o t).ready f) := xd_ot.rf.ready f
    refine ⟨fun g hg => ?_, C1.mono oo (fun n hn => xs_setL_ne hn) (xd_nc (Or.inl (by show A.a 1 f ≠ 0; rw [h5]; decide)))⟩
    have hg : g < A.nF := hg
    by_cases e : g = f
    · subst e
      refine xd_P.mk 0 (by omega) (xs_set_eq (A := A.addS g k o t)) (fun j hj hk => ?_)
      have e2 : ((A.addS g k o t).ready g).a (20 + g) j = A.a (20 + g) j := xs_set_ne (A := A.addS g k o t) (by omega)
      rw [e2]
      exact hb g j hg hj hk
    · exact xd_P.mk2 (P0 g hg (Or.inr e)) oo e
  · next h5 => exact ⟨fun g hg => P0 g hg (by
      by_cases e : g = f
      · subst e; exact Or.inl h5
      · exact Or.inr e), C1⟩
/-! all turns were somebody's, or idle -/
theorem xd_sm_end : ∀ (m i : Nat) (s : Int32), xs_sm A (m + 1) i s = xs_sm A m i s + A.a 5 (i + m) := by
  intro m
  induction m with
  | zero => intro i s; rfl
  | succ m ih =>
    intro i s
    show xs_sm A (m + 1) (i + 1) (s + A.a 5 i) = xs_sm A m (i + 1) (s + A.a 5 i) + _
    rw [ih, show i + 1 + m = i + (m + 1) by omega]
theorem xd_sm_same {P : xs_A} : ∀ (m i : Nat) (s : Int32), (∀ g, i ≤ g → g < i + m → P.a 5 g = A.a 5 g) → xs_sm P m i s = xs_sm A m i s := by
  intro m
  induction m with
  | zero => intro i s _; rfl
  | succ m ih =>
    intro i s h
    show xs_sm P m (i + 1) (s + P.a 5 i) = xs_sm A m (i + 1) (s + A.a 5 i)
    rw [h i (Nat.le_refl _) (by omega), ih (i + 1) _ (fun g h1 h2 => h g (by omega) (by omega))]
theorem xd_sm_up : ∀ (m i : Nat) (s : Int32), xs_sm A m i (s + 1) = xs_sm A m i s + 1 := by
  intro m
  induction m with
  | zero => intro i s; rfl
  | succ m ih =>
    intro i s
    show xs_sm A m (i + 1) (s + 1 + A.a 5 i) = xs_sm A m (i + 1) (s + A.a 5 i) + 1
    rw [show s + 1 + A.a 5 i = s + A.a 5 i + 1 by rw [Int32.add_assoc, Int32.add_comm 1, ← Int32.add_assoc], ih]
theorem xd_sm_one {P : xs_A} {f : Nat} : ∀ (m i : Nat) (s : Int32), (∀ g, P.a 5 g = if g = f then A.a 5 g + 1 else A.a 5 g) → i ≤ f → f < i + m → xs_sm P m i s = xs_sm A m i s + 1 := by
  intro m
  induction m with
  | zero => intro i s _ h1 h2; omega
  | succ m ih =>
    intro i s h h1 h2
    show xs_sm P m (i + 1) (s + P.a 5 i) = xs_sm A m (i + 1) (s + A.a 5 i) + 1
    by_cases e : i = f
    · subst e
      rw [h i, if_pos rfl, ← Int32.add_assoc, xd_sm_up]
      exact congrArg (· + 1) (xd_sm_same (P := P) m (i + 1) _ (fun g h1 h2 => by rw [h g, if_neg (by omega)]))
    · rw [h i, if_neg e, ih (i + 1) _ h (by omega) (by omega)]
def xd_T (A : xs_A) : Prop := xs_sm A A.nF 0 (A.a 10 0) = A.a 9 0
theorem xd_T.turn (h : xd_T A) (w : xs_W A 99) : xd_T A.turn := by
  have h8 := w.1.2.1
  have w1 := xs_W.rise A.nF 0 A w (by omega)
  have w2 := w.turn
  unfold xd_T at h ⊢
  rw [w2.2.2.1]
  cases he : (xs_A.rise A.nF 0 A).ls 0 with
  | nil =>
    obtain ⟨t1, t2, t3⟩ := xd_turn0 he
    rw [t1, t2, xd_sm_up, xd_sm_same _ _ _ (fun g _ _ => t3 5 g (by omega) (by omega) (by omega)), h]
  | cons x l =>
    obtain ⟨f, hf, hx, h0, _⟩ := w1.1.work he
    have hf8 : f < A.nF := by rw [← w1.2.2.1]; exact hf
    obtain ⟨t1, t2, t3, _⟩ := xd_turn1 he (f := f) (by rw [hx, nI_clamp (by omega)]) (by omega)
    rw [t1, t2, xd_sm_one A.nF 0 _ t3 (Nat.zero_le _) (by omega), h]
/-- all that is in order between the calls -/
def xd_I (A : xs_A) : Prop := xs_W A 99 ∧ xs_fresh A ∧ xd_B A ∧ xd_T A
theorem xd_I.turn (i : xd_I A) : xd_I A.turn := by
  obtain ⟨w, fa, b, t⟩ := i
  exact ⟨w.turn.1, fa.fr (xs_fr.turn w) w.1, b.turn w, t.turn w⟩
theorem xd_I.turns : ∀ (n : Nat) (A : xs_A), xd_I A → xd_I (A.turns n) := by
  intro n
  induction n with
  | zero => intro A h; exact h
  | succ n ih => intro A h; exact ih _ h.turn
theorem xd_I.put (i : xd_I A) {c : Nat} (hc : c < A.nC) {v : Int32} (hn : ¬ A.a 8 c ≤ nI (A.ls (1 + c)).length) : xd_I (A.put c v) := by
  obtain ⟨w, fa, b, t⟩ := i
  obtain ⟨p1, p2, p3⟩ := w.putQ fa hc (v := v) hn
  refine ⟨p1, p2, b.put w hc, ?_⟩
  have e : ∀ u j, u ≠ 1 → (A.put c v).a u j = A.a u j := fun u j h => xs_wake_a h
  unfold xd_T
  rw [p3.1.2.1, e 9 0 (by omega), e 10 0 (by omega), xd_sm_same _ _ _ (fun g _ _ => e 5 g (by omega))]
  exact t
theorem xd_I.addC (i : xd_I A) (h4 : A.nC < 4) {p : Nat} (p1 : 1 ≤ p) (p8 : p ≤ 8) : xd_I (A.addC p) := by
  obtain ⟨w, fa, b, t⟩ := i
  obtain ⟨w1, f1⟩ := w.addC fa h4 p1 p8
  have e : ∀ u j, u ≠ 8 → (A.addC p).a u j = A.a u j := fun u j h => xs_set_ne (A := A) (fun z => h z.1)
  refine ⟨w1, f1, b.addC w fa h4, ?_⟩
  unfold xd_T
  rw [e 9 0 (by omega), e 10 0 (by omega)]
  exact (xd_sm_same (P := A.addC p) A.nF 0 _ (fun g _ _ => e 5 g (by omega))).trans t
theorem xd_I.addF (i : xd_I A) (h8 : A.nF < 8) : xd_I A.addF := by
  obtain ⟨w, fa, b, t⟩ := i
  obtain ⟨w1, f1⟩ := w.addF fa h8
  refine ⟨w1, f1, b.addF fa h8, ?_⟩
  unfold xd_T
  refine (xd_sm_same (P := A.addF) (A := A) (A.nF + 1) 0 _ (fun g _ _ => rfl)).trans ?_
  have e5 : A.a 5 (0 + A.nF) = 0 := by rw [Nat.zero_add]; exact (fa.1 A.nF (Nat.le_refl _) h8).2.1 5 (by omega) (by omega)
  rw [xd_sm_end, e5, Int32.add_zero]
  exact t
theorem xd_I.grown (i : xd_I A) {f : Nat} (hf : f < A.nF) {x o t : Int32} (ok : xs_okS A f x o t) (hc : A.sc f < 12) : xd_I (A.grown f x o t) := by
  obtain ⟨w, fa, b, tt⟩ := i
  obtain ⟨w1, f1⟩ := w.grown fa hf ok hc
  refine ⟨w1, f1, b.grown w fa hf hc, ?_⟩
  have e : (A.grown f x o t).nF = A.nF ∧ ∀ u j, u ≠ 1 → (A.grown f x o t).a u j = A.a u j := by
    unfold xs_A.grown
    split
    · exact ⟨rfl, fun u j h => xs_set_ne (A := A.addS f x o t) (fun z => h z.1)⟩
    · exact ⟨rfl, fun _ _ _ => rfl⟩
  unfold xd_T
  rw [e.1, e.2 9 0 (by omega), e.2 10 0 (by omega), xd_sm_same _ _ _ (fun g _ _ => e.2 5 g (by omega))]
  exact tt
end XM
