/-! what is not born stays as it is -/
def xs_A.bo (A : xs_A) (t i : Nat) : Prop := (1 ≤ t ∧ t ≤ 6 ∧ i < A.nF) ∨ (t = 8 ∧ i < A.nC) ∨ t = 9 ∨ t = 10 ∨ (20 ≤ t ∧ t < 20 + A.nF ∧ i < A.sc (t - 20))
def xs_A.bL (A : xs_A) (n : Nat) : Prop := n = 0 ∨ (1 ≤ n ∧ n < 1 + A.nC) ∨ (5 ≤ n ∧ n < 5 + A.nC) ∨ (9 ≤ n ∧ n < 9 + A.nC)
def xs_fr (A A' : xs_A) : Prop := xs_ss A A' ∧ (∀ t i, ¬ A.bo t i → A'.a t i = A.a t i) ∧ ∀ n, ¬ A.bL n → A'.ls n = A.ls n
section FR
variable {A P : xs_A} {r : Nat}
theorem xs_fr.rf : xs_fr A A := ⟨xs_ss.rf, fun _ _ _ => rfl, fun _ _ => rfl⟩
theorem xs_fr.tr {A1 A2 : xs_A} (a : xs_fr A A1) (b : xs_fr A1 A2) : xs_fr A A2 := by
  obtain ⟨s, a1, a2⟩ := a
  obtain ⟨s', b1, b2⟩ := b
  refine ⟨s.tr s', fun t i h => ?_, fun n h => ?_⟩
  · rw [b1 t i (by unfold xs_A.bo at h ⊢; rw [s.1, s.2.1, s.2.2.1]; exact h)]
    exact a1 t i h
  · rw [b2 n (by unfold xs_A.bL at h ⊢; rw [s.1]; exact h)]
    exact a2 n h
theorem xs_fr.set {t i : Nat} {v : Int32} (f : xs_fr A P) (hb : A.bo t i) : xs_fr A (P.set t i v) := by
  obtain ⟨s, a1, a2⟩ := f
  refine ⟨s, fun t' i' h => ?_, a2⟩
  rw [xs_set_ne (by rintro ⟨rfl, rfl⟩; exact h hb)]
  exact a1 t' i' h
theorem xs_fr.setL {n : Nat} {l : List Int32} (f : xs_fr A P) (hb : A.bL n) : xs_fr A (P.setL n l) := by
  obtain ⟨s, a1, a2⟩ := f
  refine ⟨s, a1, fun m h => ?_⟩
  rw [xs_setL_ne (by rintro rfl; exact h hb)]
  exact a2 m h
theorem xs_boF {t f : Nat} (hf : f < A.nF) (ht : 1 ≤ t ∧ t ≤ 6) : A.bo t f := Or.inl ⟨ht.1, ht.2, hf⟩
theorem xs_bLc {c : Nat} (hc : c < A.nC) : A.bL (1 + c) ∧ A.bL (5 + c) ∧ A.bL (9 + c) := ⟨Or.inr (Or.inl ⟨by omega, by omega⟩), Or.inr (Or.inr (Or.inl ⟨by omega, by omega⟩)), Or.inr (Or.inr (Or.inr ⟨by omega, by omega⟩))⟩
theorem xs_fr.wake (f : xs_fr A P) (h8 : A.nF ≤ 8) {n : Nat} (hb : A.bL n) (hx : ∀ x ∈ P.ls n, ∃ f, f < A.nF ∧ x = nI f) : xs_fr A (P.wake n) := by
  unfold xs_A.wake
  cases he : P.ls n with
  | nil => exact f
  | cons x l =>
    obtain ⟨g, hg, rfl⟩ := hx x (by rw [he]; exact List.mem_cons_self)
    show xs_fr A (((P.setL n l).set 1 (nI g).toNatClampNeg 0).setL 0 ((P.setL n l).ls 0 ++ [nI g]))
    rw [nI_clamp (by omega)]
    exact ((f.setL hb).set (xs_boF hg (by omega))).setL (Or.inl rfl)
theorem xs_fr.move (f : xs_fr A P) (hf : r < A.nF) : xs_fr A (P.move r) := (f.set (xs_boF hf (by omega))).set (xs_boF hf (by omega))
theorem xs_fr.ready (f : xs_fr A P) (hf : r < A.nF) : xs_fr A (P.ready r) := (f.set (xs_boF hf (by omega))).setL (Or.inl rfl)
theorem xs_fr.send (w : xs_W A r) (hf : r < A.nF) {c : Nat} (hc : c < A.nC) {v : Int32} : xs_fr A (A.send r c v) := by
  unfold xs_A.send
  split
  · exact (xs_fr.rf.set (xs_boF hf (by omega))).setL (xs_bLc hc).2.1
  · refine xs_fr.move ?_ hf
    refine xs_fr.wake (xs_fr.rf.setL (xs_bLc hc).1) w.1.2.1 (xs_bLc hc).2.2 (fun x hx => ?_)
    rw [xs_setL_ne (by have := w.1.1; omega)] at hx
    exact w.fibs (xs_fL hc).2 x hx
theorem xs_fr.take (w : xs_W A r) (hf : r < A.nF) {c : Nat} (hc : c < A.nC) : xs_fr A (A.take r c) := by
  unfold xs_A.take
  cases he : A.ls (1 + c) with
  | nil => exact (xs_fr.rf.set (xs_boF hf (by omega))).setL (xs_bLc hc).2.2
  | cons v l =>
    refine xs_fr.move (P := ((A.setL (1 + c) l).set 3 r (A.a 3 r + v)).wake (5 + c)) ?_ hf
    refine xs_fr.wake ((xs_fr.rf.setL (xs_bLc hc).1).set (xs_boF hf (by omega))) w.1.2.1 (xs_bLc hc).2.1 (fun x hx => ?_)
    have hx : x ∈ (A.setL (1 + c) l).ls (5 + c) := hx
    rw [xs_setL_ne (by have := w.1.1; omega)] at hx
    exact w.fibs (xs_fL hc).1 x hx
theorem xs_fr.act (w : xs_W A r) (hf : r < A.nF) (hp : A.pl r < A.sc r) : xs_fr A (A.act r) := by
  obtain ⟨t1, t2, t3, t4⟩ := w.2.1 r (A.pl r) hf hp
  have hb := w.1
  unfold xs_A.act
  split
  · rename_i k
    obtain ⟨c, hc, hoc⟩ := t1 (Or.inl k)
    rw [hoc, nI_clamp (by have := hb.1; omega)]
    exact xs_fr.send w hf hc
  split
  · rename_i k
    obtain ⟨c, hc, hoc⟩ := t1 (Or.inr (Or.inl k))
    rw [hoc, nI_clamp (by have := hb.1; omega)]
    exact xs_fr.take w hf hc
  split
  · exact xs_fr.move ((xs_fr.rf.set (xs_boF hf (by omega))).set (xs_boF hf (by omega))) hf
  split
  · exact xs_fr.rf.move hf
  split
  · unfold xs_A.join
    split
    · exact xs_fr.rf.move hf
    · exact xs_fr.rf.set (xs_boF hf (by omega))
  split
  · have hbb : A.bo (20 + r) (A.pl r) := Or.inr (Or.inr (Or.inr (Or.inr ⟨by omega, by omega, by rw [show 20 + r - 20 = r by omega]; exact hp⟩)))
    unfold xs_A.back
    split
    · exact xs_fr.move (xs_fr.rf.set hbb) hf
    · exact ((xs_fr.rf.set hbb).set (xs_boF hf (by omega))).set (xs_boF hf (by omega))
  split
  · rename_i k
    obtain ⟨c, hc, hoc⟩ := t1 (Or.inr (Or.inr k))
    rw [hoc, nI_clamp (by have := hb.1; omega)]
    exact xs_fr.send w hf hc
  · exact xs_fr.rf.move hf
theorem xs_fr.go : ∀ (n : Nat) (A : xs_A), xs_W A r → r < A.nF → A.a 1 r = 0 → xs_fr A (xs_A.go r n A) := by
  intro n
  induction n with
  | zero => exact fun A _ _ _ => xs_fr.rf
  | succ n ih =>
    intro A h hf h0
    unfold xs_A.go
    have hpl := h.pl hf
    split
    · exact xs_fr.rf
    · rename_i hn
      have hp : A.pl r < A.sc r := by
        rw [hpl.1, nI_leI (by omega) (by omega)] at hn
        omega
      have f1 := xs_fr.act h hf hp
      obtain ⟨w1, w2⟩ := h.act hf h0 hp
      split
      · exact f1
      · rename_i hk
        have e0 : (A.act r).a 1 r = 0 := Classical.byContradiction fun z => hk (Or.inr z)
        exact f1.tr (ih (A.act r) w1 (by rw [w2.2.1]; exact hf) e0)
theorem xs_fr.joins {f : Nat} : ∀ (m i : Nat) (A : xs_A), i + m ≤ A.nF → xs_fr A (xs_A.joins f m i A) := by
  intro m
  induction m with
  | zero => exact fun i A _ => xs_fr.rf
  | succ m ih =>
    intro i A hi
    unfold xs_A.joins
    split
    · split
      · exact (xs_fr.rf.ready (r := i) (by omega)).tr (ih (i + 1) (A.ready i) (by show i + 1 + m ≤ A.nF; omega))
      · exact ih (i + 1) A (by omega)
    · exact ih (i + 1) A (by omega)
theorem xs_fr.rise : ∀ (m i : Nat) (A : xs_A), i + m ≤ A.nF → xs_fr A (xs_A.rise m i A) := by
  intro m
  induction m with
  | zero => exact fun i A _ => xs_fr.rf
  | succ m ih =>
    intro i A hi
    unfold xs_A.rise
    split
    · split
      · exact (xs_fr.rf.ready (r := i) (by omega)).tr (ih (i + 1) (A.ready i) (by show i + 1 + m ≤ A.nF; omega))
      · exact ih (i + 1) A (by omega)
    · exact ih (i + 1) A (by omega)
theorem xs_fr.fin (hf : r < A.nF) : xs_fr A (A.fin r) := by
  unfold xs_A.fin
  split
  · split
    · exact (xs_fr.rf.set (xs_boF hf (by omega))).tr (xs_fr.joins (f := r) A.nF 0 (A.set 1 r 5) (by show 0 + A.nF ≤ A.nF; omega))
    · exact xs_fr.rf.setL (Or.inl rfl)
  · exact xs_fr.rf
theorem xs_fr.turn (w : xs_W A 99) : xs_fr A A.turn := by
  unfold xs_A.turn
  obtain ⟨h1, s1⟩ := xs_W.rise A.nF 0 A w (by omega)
  have f1 := xs_fr.rise A.nF 0 A (by omega)
  generalize xs_A.rise A.nF 0 A = A1 at h1 s1 f1
  refine f1.tr ?_
  cases he : A1.ls 0 with
  | nil => exact (xs_fr.rf.set (Or.inr (Or.inr (Or.inr (Or.inl rfl))))).set (Or.inr (Or.inr (Or.inl rfl)))
  | cons x l =>
    obtain ⟨f, hf, hx, h0, hw⟩ := h1.work he
    have h8 := h1.1.2.1
    subst hx
    show xs_fr A1 (((xs_A.go (nI f).toNatClampNeg 4 ((A1.setL 0 l).set 5 (nI f).toNatClampNeg (A1.a 5 (nI f).toNatClampNeg + 1))).fin (nI f).toNatClampNeg).tick)
    rw [nI_clamp (by omega)]
    have hw2 : xs_W ((A1.setL 0 l).set 5 f (A1.a 5 f + 1)) f := hw.scal (by decide)
    have f2 : xs_fr A1 ((A1.setL 0 l).set 5 f (A1.a 5 f + 1)) := (xs_fr.rf.setL (Or.inl rfl)).set (xs_boF hf (by omega))
    obtain ⟨g1, g2⟩ := xs_W.go 4 _ hw2 hf h0
    have f3 := f2.tr (xs_fr.go 4 _ hw2 hf h0)
    have f4 := f3.tr (xs_fr.fin (r := f) (by rw [g2.2.1]; exact hf))
    exact f4.set (Or.inr (Or.inr (Or.inl rfl)))
end FR
/-- the unborn are as a new clock has them -/
def xs_fresh (A : xs_A) : Prop := (∀ f, A.nF ≤ f → f < 8 → A.a 1 f = 5 ∧ (∀ t, 2 ≤ t → t ≤ 6 → A.a t f = 0) ∧ A.sc f = 0) ∧ (∀ f j, f < 8 → A.sc f ≤ j → j < 12 → A.a (20 + f) j = 0) ∧ ∀ c, A.nC ≤ c → c < 4 → A.a 8 c = 0 ∧ A.ls (1 + c) = [] ∧ A.ls (5 + c) = [] ∧ A.ls (9 + c) = []
theorem xs_fresh.fr {A P : xs_A} (h : xs_fresh A) (f : xs_fr A P) (hs : A.sz) : xs_fresh P := by
  obtain ⟨s, f1, f2⟩ := f
  obtain ⟨s1, s2, s3, s4, s5, s6⟩ := s
  obtain ⟨h1, h2, h3⟩ := h
  unfold xs_fresh
  rw [s1, s2, s3]
  refine ⟨fun f hf hf8 => ?_, fun f j hf8 hj hj12 => ?_, fun c hc hc4 => ?_⟩
  · obtain ⟨q1, q2, q3⟩ := h1 f hf hf8
    refine ⟨(f1 1 f (by unfold xs_A.bo; omega)).trans q1, fun t ht1 ht2 => (f1 t f (by unfold xs_A.bo; omega)).trans (q2 t ht1 ht2), q3⟩
  · rw [f1 (20 + f) j (by unfold xs_A.bo; rw [show 20 + f - 20 = f by omega]; omega)]
    exact h2 f j hf8 hj hj12
  · have h4 := hs.1
    rw [f1 8 c (by unfold xs_A.bo; omega), f2 (1 + c) (by unfold xs_A.bL; omega), f2 (5 + c) (by unfold xs_A.bL; omega), f2 (9 + c) (by unfold xs_A.bL; omega)]
    exact h3 c hc hc4
