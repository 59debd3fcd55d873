/-! a step, a turn keep the order -/
/-- what there is stays -/
def xs_ss (A A' : xs_A) : Prop := A'.nC = A.nC ∧ A'.nF = A.nF ∧ A'.sc = A.sc ∧ A'.kd = A.kd ∧ A'.on = A.on ∧ A'.tw = A.tw
theorem xs_ss.rf {A : xs_A} : xs_ss A A := ⟨rfl, rfl, rfl, rfl, rfl, rfl⟩
theorem xs_ss.tr {A A1 A2 : xs_A} (a : xs_ss A A1) (b : xs_ss A1 A2) : xs_ss A A2 := ⟨b.1.trans a.1, b.2.1.trans a.2.1, b.2.2.1.trans a.2.2.1, b.2.2.2.1.trans a.2.2.2.1, b.2.2.2.2.1.trans a.2.2.2.2.1, b.2.2.2.2.2.trans a.2.2.2.2.2⟩
section WH
variable {A : xs_A} {r : Nat}
theorem xs_ss_wake {n : Nat} : xs_ss A (A.wake n) := by
  unfold xs_A.wake
  split <;> exact xs_ss.rf
theorem xs_wake_a {n t i : Nat} (ht : t ≠ 1) : (A.wake n).a t i = A.a t i := by
  unfold xs_A.wake
  split
  · rfl
  · exact if_neg (fun z => ht z.1)
/-- the state of one that does not wait stays -/
theorem xs_wake_1 (h : xs_W A r) {n f : Nat} (hn : A.fL n) (h0 : n ≠ 0) (hf : f < A.nF) (hs : A.a 1 f ≠ 1 ∧ A.a 1 f ≠ 2) : (A.wake n).a 1 f = A.a 1 f := by
  unfold xs_A.wake
  cases he : A.ls n with
  | nil => rfl
  | cons x l =>
    have hm := h.2.2.2.2.2 n hn
    obtain ⟨g, hg, hx⟩ := hm.1.2 x (by rw [he]; exact List.mem_cons_self)
    have hat := (hm.2 g hg).mp (by rw [he, hx]; exact List.mem_cons_self)
    have h8 := h.1.2.1
    subst hx
    show (if 1 = 1 ∧ f = (nI g).toNatClampNeg then 0 else A.a 1 f) = A.a 1 f
    rw [nI_clamp (by omega), if_neg]
    rintro ⟨_, rfl⟩
    rcases xs_at_st hat with ⟨z, _⟩ | ⟨_, z⟩
    · exact h0 z
    · exact z.elim hs.1 hs.2
theorem xs_fL {c : Nat} (hc : c < A.nC) : A.fL (5 + c) ∧ A.fL (9 + c) := ⟨Or.inr (Or.inl ⟨by omega, by omega⟩), Or.inr (Or.inr ⟨by omega, by omega⟩)⟩
theorem xs_pl_of {f p : Nat} (hp : p ≤ 12) (h : A.a 2 f = nI p) : A.pl f = p := by
  unfold xs_A.pl
  rw [h, nI_clamp (by omega)]
theorem xs_W.pl (h : xs_W A r) {f : Nat} (hf : f < A.nF) : A.a 2 f = nI (A.pl f) ∧ A.pl f ≤ A.sc f ∧ A.sc f ≤ 12 := by
  obtain ⟨p, hp, he⟩ := h.2.2.1 f hf
  have h12 := h.1.2.2 f hf
  rw [xs_pl_of (by omega) he]
  exact ⟨he, hp, h12⟩
theorem xs_W.drops (h : xs_W A r) {c : Nat} (hc : c < A.nC) {l : List Int32} (hl : ∀ p, p ≤ 8 → A.a 8 c = nI p → l.length ≤ p) : xs_W (A.setL (1 + c) l) r := by
  obtain ⟨h1, h2, h3, h4, h5, h6⟩ := h
  have s1 := h1.1
  refine ⟨h1, h2, h3, h4, fun d hd => ?_, fun n hn => ?_⟩
  · obtain ⟨p, p1, p2, p3, p4⟩ := h5 d hd
    refine ⟨p, p1, p2, p3, ?_⟩
    by_cases e : d = c
    · subst e; rw [xs_setL_eq]; exact hl p p2 p3
    · rw [xs_setL_ne (by omega)]; exact p4
  · have hn : A.fL n := hn
    rw [xs_setL_ne (by unfold xs_A.fL at hn; omega)]
    exact h6 n hn
theorem xs_W.move (h : xs_W A r) {f : Nat} (hf : f < A.nF) (h0 : A.a 1 f ≠ 1 ∧ A.a 1 f ≠ 2 ∧ A.a 1 f ≠ 4) (hp : A.pl f < A.sc f) : xs_W (A.move f) r := by
  unfold xs_A.move
  refine xs_W.scal ?_ (by decide)
  rw [(h.pl hf).1, nI_1]
  exact h.plc hf h0 hp
theorem xs_W.put (h : xs_W A r) (hr : ∀ g, g < A.nF → g = r → A.a 1 g ≠ 1 ∧ A.a 1 g ≠ 2) {c : Nat} (hc : c < A.nC) {v : Int32} (hn : ¬ A.a 8 c ≤ nI (A.ls (1 + c)).length) : xs_W (A.put c v) r := by
  unfold xs_A.put
  refine (h.drops hc (fun p hp he => ?_)).wake hr (xs_fL (A := A) hc).2 (by omega)
  obtain ⟨p', p1, p2, p3, p4⟩ := h.2.2.2.2.1 c hc
  have e : p = p' := (nI_eq (by omega) (by omega)).mp (he.symm.trans p3)
  rw [p3] at hn
  rw [List.length_append, e]
  have : (A.ls (1 + c)).length ≠ p' := fun z => hn (by rw [z]; exact Int32.le_refl _)
  show (A.ls (1 + c)).length + 1 ≤ p'
  omega
theorem xs_ss_put {c : Nat} {v : Int32} : xs_ss A (A.put c v) := xs_ss.tr (A1 := A.setL (1 + c) (A.ls (1 + c) ++ [v])) xs_ss.rf xs_ss_wake
theorem xs_W.send (h : xs_W A r) (hf : r < A.nF) (h0 : A.a 1 r = 0) (hp : A.pl r < A.sc r) {c : Nat} (hc : c < A.nC) (ho : A.on r (A.pl r) = nI c) {v : Int32} : xs_W (A.send r c v) r ∧ xs_ss A (A.send r c v) := by
  unfold xs_A.send
  by_cases hn : A.a 8 c ≤ nI (A.ls (1 + c)).length
  · rw [if_pos hn]
    refine ⟨h.wait hf h0 hp (xs_fL hc).1 ?_ (by omega), xs_ss.rf⟩
    unfold xs_A.at
    rw [if_neg (by omega), if_pos (by have := h.1.1; omega)]
    refine ⟨xs_set_eq, ?_⟩
    rw [show 5 + c - 5 = c by omega]
    exact ho
  · rw [if_neg hn]
    have h01 : A.a 1 r ≠ 1 ∧ A.a 1 r ≠ 2 := by rw [h0]; decide
    have hw := h.put (v := v) (fun g hg e => by rw [e]; exact h01) hc hn
    have e1 : (A.put c v).a 1 r = 0 := by
      unfold xs_A.put
      rw [xs_wake_1 (r := r) (h.drops hc (l := A.ls (1 + c) ++ [v]) (fun p hp he => by
        obtain ⟨p', p1, p2, p3, p4⟩ := h.2.2.2.2.1 c hc
        have e : p = p' := (nI_eq (by omega) (by omega)).mp (he.symm.trans p3)
        rw [p3] at hn
        rw [List.length_append, e]
        have : (A.ls (1 + c)).length ≠ p' := fun z => hn (by rw [z]; exact Int32.le_refl _)
        show (A.ls (1 + c)).length + 1 ≤ p'
        omega)) (xs_fL (A := A) hc).2 (by omega) hf h01]
      exact h0
    have e2 : (A.put c v).pl r = A.pl r := congrArg Int32.toNatClampNeg (xs_wake_a (by decide))
    have ess := xs_ss_put (A := A) (c := c) (v := v)
    refine ⟨hw.move (by rw [ess.2.1]; exact hf) (by rw [e1]; decide) (by rw [e2, ess.2.2.1]; exact hp), ess⟩
theorem xs_W.take (h : xs_W A r) (hf : r < A.nF) (h0 : A.a 1 r = 0) (hp : A.pl r < A.sc r) {c : Nat} (hc : c < A.nC) (ho : A.on r (A.pl r) = nI c) : xs_W (A.take r c) r ∧ xs_ss A (A.take r c) := by
  unfold xs_A.take
  cases he : A.ls (1 + c) with
  | nil =>
    refine ⟨h.wait hf h0 hp (xs_fL hc).2 ?_ (by omega), xs_ss.rf⟩
    unfold xs_A.at
    rw [if_neg (by omega), if_neg (by omega)]
    refine ⟨xs_set_eq, ?_⟩
    rw [show 9 + c - 9 = c by omega]
    exact ho
  | cons v l =>
    have h01 : A.a 1 r ≠ 1 ∧ A.a 1 r ≠ 2 := by rw [h0]; decide
    have hw1 : xs_W ((A.setL (1 + c) l).set 3 r (A.a 3 r + v)) r := (h.drops hc (fun p hp2 he2 => by
      obtain ⟨p', p1, p2, p3, p4⟩ := h.2.2.2.2.1 c hc
      have e : p = p' := (nI_eq (by omega) (by omega)).mp (he2.symm.trans p3)
      rw [he] at p4
      rw [e]
      exact Nat.le_of_succ_le p4)).scal (by decide)
    generalize hA1 : (A.setL (1 + c) l).set 3 r (A.a 3 r + v) = A1 at hw1
    have s1 : xs_ss A A1 := by rw [← hA1]; exact xs_ss.rf
    have a1 : A1.a 1 r = 0 := by rw [← hA1]; exact h0
    have a2 : A1.pl r = A.pl r := by rw [← hA1]; rfl
    have hc1 : c < A1.nC := by rw [s1.1]; exact hc
    have hf1 : r < A1.nF := by rw [s1.2.1]; exact hf
    have h01' : A1.a 1 r ≠ 1 ∧ A1.a 1 r ≠ 2 := by rw [a1]; decide
    have hw2 := hw1.wake (fun g hg e => by rw [e]; exact h01') (xs_fL hc1).1 (by omega)
    have e1 : (A1.wake (5 + c)).a 1 r = 0 := by rw [xs_wake_1 hw1 (xs_fL hc1).1 (by omega) hf1 h01']; exact a1
    have e2 : (A1.wake (5 + c)).pl r = A.pl r := (congrArg Int32.toNatClampNeg (xs_wake_a (by decide))).trans a2
    have ess := s1.tr (xs_ss_wake (A := A1) (n := 5 + c))
    show xs_W ((((A.setL (1 + c) l).set 3 r (A.a 3 r + v)).wake (5 + c)).move r) r ∧ xs_ss A ((((A.setL (1 + c) l).set 3 r (A.a 3 r + v)).wake (5 + c)).move r)
    rw [hA1]
    exact ⟨hw2.move (by rw [ess.2.1]; exact hf) (by rw [e1]; decide) (by rw [e2, ess.2.2.1]; exact hp), ess⟩
theorem xs_W.act (h : xs_W A r) (hf : r < A.nF) (h0 : A.a 1 r = 0) (hp : A.pl r < A.sc r) : xs_W (A.act r) r ∧ xs_ss A (A.act r) := by
  obtain ⟨t1, t2, t3, t4⟩ := h.2.1 r (A.pl r) hf hp
  have h04 : A.a 1 r ≠ 1 ∧ A.a 1 r ≠ 2 ∧ A.a 1 r ≠ 4 := by rw [h0]; decide
  have hb := h.1
  have hpl := h.pl hf
  unfold xs_A.act
  split
  · rename_i k
    obtain ⟨c, hc, hoc⟩ := t1 (Or.inl k)
    rw [hoc, nI_clamp (by have := hb.1; omega)]
    exact h.send hf h0 hp hc hoc
  split
  · rename_i k
    obtain ⟨c, hc, hoc⟩ := t1 (Or.inr (Or.inl k))
    rw [hoc, nI_clamp (by have := hb.1; omega)]
    exact h.take hf h0 hp hc hoc
  split
  · have hw6 : xs_W (A.set 6 r (A.a 9 0 + A.on r (A.pl r))) r := h.scal (by decide)
    have hw7 := hw6.st (s := 3) hf (show A.a 1 r ≠ 1 ∧ A.a 1 r ≠ 2 from ⟨h04.1, h04.2.1⟩) (by decide) (fun z => absurd z (by decide))
    exact ⟨hw7.move hf (by rw [xs_set_eq]; decide) hp, xs_ss.rf⟩
  split
  · exact ⟨h.move hf h04 hp, xs_ss.rf⟩
  split
  · rename_i k
    obtain ⟨g, hg, hog⟩ := t2 k
    unfold xs_A.join
    split
    · exact ⟨h.move hf h04 hp, xs_ss.rf⟩
    · exact ⟨h.st hf ⟨h04.1, h04.2.1⟩ (by decide) (fun _ => hp), xs_ss.rf⟩
  split
  · rename_i k
    obtain ⟨q, hq, hoq⟩ := t3 k
    unfold xs_A.back
    split
    · exact ⟨xs_W.move (h.scal ⟨by omega, by omega, by omega⟩) hf (by rw [xs_set_ne (by omega)]; exact h04) (by rw [show (A.set (20 + r) (A.pl r) 0).pl r = A.pl r from congrArg Int32.toNatClampNeg (xs_set_ne (by omega))]; exact hp), xs_ss.rf⟩
    · have hb1 : xs_W (A.set (20 + r) (A.pl r) (A.a (20 + r) (A.pl r) + 1)) r := h.scal ⟨by omega, by omega, by omega⟩
      have e1 : (A.set (20 + r) (A.pl r) (A.a (20 + r) (A.pl r) + 1)).a 1 r = A.a 1 r := xs_set_ne (fun z => by omega)
      have hb2 := hb1.plc (f := r) (p := q) hf (by rw [e1]; exact h04) (show q ≤ A.sc r by omega)
      rw [hoq]
      exact ⟨hb2.scal (by decide), xs_ss.rf⟩
  split
  · rename_i k
    obtain ⟨c, hc, hoc⟩ := t1 (Or.inr (Or.inr k))
    rw [hoc, nI_clamp (by have := hb.1; omega)]
    exact h.send hf h0 hp hc hoc
  · exact ⟨h.move hf h04 hp, xs_ss.rf⟩
theorem xs_W.go : ∀ (n : Nat) (A : xs_A), xs_W A r → r < A.nF → A.a 1 r = 0 → xs_W (xs_A.go r n A) r ∧ xs_ss A (xs_A.go r n A) := by
  intro n
  induction n with
  | zero => exact fun A h _ _ => ⟨h, xs_ss.rf⟩
  | succ n ih =>
    intro A h hf h0
    unfold xs_A.go
    have hpl := h.pl hf
    split
    · exact ⟨h, xs_ss.rf⟩
    · rename_i hn
      have hp : A.pl r < A.sc r := by
        rw [hpl.1, nI_leI (by omega) (by omega)] at hn
        omega
      obtain ⟨w1, w2⟩ := h.act hf h0 hp
      split
      · exact ⟨w1, w2⟩
      · rename_i hk
        have e0 : (A.act r).a 1 r = 0 := Classical.byContradiction fun z => hk (Or.inr z)
        obtain ⟨v1, v2⟩ := ih (A.act r) w1 (by rw [w2.2.1]; exact hf) e0
        exact ⟨v1, w2.tr v2⟩
theorem xs_W.joins {f : Nat} : ∀ (m i : Nat) (A : xs_A), xs_W A 99 → i + m ≤ A.nF → xs_W (xs_A.joins f m i A) 99 ∧ xs_ss A (xs_A.joins f m i A) := by
  intro m
  induction m with
  | zero => exact fun i A h _ => ⟨h, xs_ss.rf⟩
  | succ m ih =>
    intro i A h hi
    unfold xs_A.joins
    have h8 := h.1.2.1
    split
    · rename_i h4
      split
      · exact (ih (i + 1) _ (h.ready (f := i) (by omega) (by omega) (by rw [h4]; decide)) (by show i + 1 + m ≤ A.nF; omega))
      · exact ih (i + 1) A h (by omega)
    · exact ih (i + 1) A h (by omega)
theorem xs_W.rise : ∀ (m i : Nat) (A : xs_A), xs_W A 99 → i + m ≤ A.nF → xs_W (xs_A.rise m i A) 99 ∧ xs_ss A (xs_A.rise m i A) := by
  intro m
  induction m with
  | zero => exact fun i A h _ => ⟨h, xs_ss.rf⟩
  | succ m ih =>
    intro i A h hi
    unfold xs_A.rise
    have h8 := h.1.2.1
    split
    · rename_i h4
      split
      · exact (ih (i + 1) _ (h.ready (f := i) (by omega) (by omega) (by rw [h4]; decide)) (by show i + 1 + m ≤ A.nF; omega))
      · exact ih (i + 1) A h (by omega)
    · exact ih (i + 1) A h (by omega)
theorem xs_W.fin (h : xs_W A r) (hf : r < A.nF) : xs_W (A.fin r) 99 ∧ xs_ss A (A.fin r) := by
  unfold xs_A.fin
  split
  · rename_i h0
    split
    · have h1 := h.st (s := 5) hf (by rw [h0]; decide) (by decide) (fun z => absurd z (by decide))
      have h2 := h1.rest (by rw [xs_set_eq]; decide)
      exact xs_W.joins (f := r) A.nF 0 (A.set 1 r 5) h2 (by show 0 + A.nF ≤ A.nF; omega)
    · exact ⟨h.line hf h0, xs_ss.rf⟩
  · rename_i h0
    exact ⟨h.rest h0, xs_ss.rf⟩
theorem xs_W.turn (h : xs_W A 99) : xs_W A.turn 99 ∧ xs_ss A A.turn := by
  unfold xs_A.turn
  obtain ⟨h1, s1⟩ := xs_W.rise A.nF 0 A h (by omega)
  generalize xs_A.rise A.nF 0 A = A1 at h1 s1
  cases he : A1.ls 0 with
  | nil => exact ⟨xs_W.scal (xs_W.scal h1 (by decide)) (by decide), s1⟩
  | cons x l =>
    obtain ⟨f, hf, hx, h0, hw⟩ := h1.work he
    have h8 := h1.1.2.1
    subst hx
    show xs_W (((xs_A.go (nI f).toNatClampNeg 4 ((A1.setL 0 l).set 5 (nI f).toNatClampNeg (A1.a 5 (nI f).toNatClampNeg + 1))).fin (nI f).toNatClampNeg).tick) 99 ∧ xs_ss A (((xs_A.go (nI f).toNatClampNeg 4 ((A1.setL 0 l).set 5 (nI f).toNatClampNeg (A1.a 5 (nI f).toNatClampNeg + 1))).fin (nI f).toNatClampNeg).tick)
    rw [nI_clamp (by omega)]
    have hw2 : xs_W ((A1.setL 0 l).set 5 f (A1.a 5 f + 1)) f := hw.scal (by decide)
    obtain ⟨g1, g2⟩ := xs_W.go 4 _ hw2 hf h0
    obtain ⟨k1, k2⟩ := g1.fin (by rw [g2.2.1]; exact hf)
    exact ⟨xs_W.scal k1 (by decide), s1.tr (xs_ss.tr (A1 := (A1.setL 0 l).set 5 f (A1.a 5 f + 1)) xs_ss.rf (g2.tr k2))⟩
end WH
