/-! the law's own clock does the abstract moves -/
theorem xo_let_eq {α β : Type} {a : α} {f : α → β} : xo_let a f = f a := rfl
/-- the law's other rows stay -/
def ys_o (y y' : yz_Y) : Prop := ∀ k, 136 ≤ k → y'.1 k = y.1 k ∧ y'.2 k = y.2 k
section YS
variable {y y' : yz_Y} {A A' : xs_A} {Wt : List Int32} {r : Nat}
theorem ys_o.rf : ys_o y y := fun _ _ => ⟨rfl, rfl⟩
theorem ys_o.tr {y1 y2 : yz_Y} (a : ys_o y y1) (b : ys_o y1 y2) : ys_o y y2 := fun k hk => ⟨(b k hk).1.trans (a k hk).1, (b k hk).2.trans (a k hk).2⟩
theorem ys_o.st {k j : Nat} {v : Int32} (h : k < 136) : ys_o y (yz_st y k j v) := fun a ha => ⟨funext fun i => yz_st_at (fun z => by omega), rfl⟩
theorem ys_o.mv {k n : Nat} {g : Nat → Int32} (h : k < 136) : ys_o y (yz_mv y k n g) := fun a ha => yz_mv_ne (by omega)
theorem ys_R.gF (R : ys_R y A Wt) {f : Nat} (hf : f < A.nF) : y.1 (10 + f) 4 = A.a 1 f ∧ y.1 (10 + f) 2 = A.a 2 f ∧ y.1 (10 + f) 3 = A.a 3 f ∧ y.1 (10 + f) 6 = A.a 4 f ∧ y.1 (10 + f) 7 = A.a 5 f ∧ y.1 (10 + f) 5 = A.a 6 f :=
  have h := R.2.2.2.2.2.1 f
  ⟨h 1 hf (by omega) (by omega), h 2 hf (by omega) (by omega), h 3 hf (by omega) (by omega), h 4 hf (by omega) (by omega), h 5 hf (by omega) (by omega), h 6 hf (by omega) (by omega)⟩
theorem ys_R.ixF (R : ys_R y A Wt) (hs : A.sz) {f : Nat} (hf : f < A.nF) : xo_ix (nI f) (y.2 3) = true := by
  have := hs.2.1
  rw [R.1.2.2]
  exact xs_ix hf (by omega)
theorem ys_R.len4 (R : ys_R y A Wt) : y.2 4 = (A.ls 0).length := R.2.2.2.2.1.1.1
theorem ys_R.len5 (R : ys_R y A Wt) : y.2 5 = Wt.length := R.2.2.2.2.1.2.1
theorem ys_ready (R : ys_R y A Wt) (hs : A.sz) {f : Nat} (hf : f < A.nF) (hl : (A.ls 0).length ≤ 12) : ∃ y', mX7_ready (nI f) y = some (y', ()) ∧ ys_R y' (A.ready f) Wt ∧ ys_o y y' := by
  have h8 := hs.2.1
  have R1 := R.setF hs (t := 1) (by omega) hf 0
  unfold mX7_ready
  rw [nI_clamp (by omega), if_pos (R.ixF hs hf), if_pos (R.isF hs hf), xo_let_eq, if_pos (by rw [Bool.and_eq_true, decide_eq_true_eq]; exact ⟨ys_is4.1, by show y.2 4 ≤ 12; rw [R.len4]; exact hl⟩), xo_let_eq]
  exact ⟨_, rfl, R1.line hs (R1.2.2.2.2.1.1.app), (ys_o.st (by omega)).tr (ys_o.mv (by omega))⟩
theorem ys_waitIn (R : ys_R y A Wt) (hs : A.sz) {f : Nat} (hf : f < A.nF) (s : Int32) (hl : Wt.length ≤ 12) : ∃ y', mX7_waitIn (nI f) s y = some (y', ()) ∧ ys_R y' (A.set 1 f s) (Wt ++ [nI f]) ∧ ys_o y y' := by
  have h8 := hs.2.1
  have R1 := R.setF hs (t := 1) (by omega) hf s
  unfold mX7_waitIn
  rw [nI_clamp (by omega), if_pos (R.ixF hs hf), if_pos (R.isF hs hf), xo_let_eq, if_pos (by rw [Bool.and_eq_true, decide_eq_true_eq]; exact ⟨ys_is4.2.1, by show y.2 5 ≤ 12; rw [R.len5]; exact hl⟩), xo_let_eq]
  exact ⟨_, rfl, R1.wait hs (R1.2.2.2.2.1.2.app), (ys_o.st (by omega)).tr (ys_o.mv (by omega))⟩
/-- who waits at a channel -/
def ys_w (A : xs_A) (s : Int32) (c : Nat) (x : Int32) : Bool := decide (A.a 1 x.toNatClampNeg = s ∧ A.on x.toNatClampNeg (A.pl x.toNatClampNeg) = nI c)
/-- all that wait, in the order in which they came -/
def ys_V (A : xs_A) (Wt : List Int32) : Prop := xs_mem A Wt ∧ (∀ g, g < A.nF → (nI g ∈ Wt ↔ A.a 1 g = 1 ∨ A.a 1 g = 2 ∨ A.a 1 g = 4)) ∧ ∀ c, c < A.nC → A.ls (5 + c) = Wt.filter (ys_w A 1 c) ∧ A.ls (9 + c) = Wt.filter (ys_w A 2 c)
theorem ys_V.len (V : ys_V A Wt) (hs : A.sz) : Wt.length ≤ 8 := Nat.le_trans (xs_pig A.nF Wt V.1.1 V.1.2) hs.2.1
theorem ys_w_nI {s : Int32} {c g : Nat} (hg : g < 8) : ys_w A s c (nI g) = decide (A.a 1 g = s ∧ A.on g (A.pl g) = nI c) := by
  unfold ys_w
  rw [nI_clamp (by omega)]
/-- who waits goes on to, nobody comes -/
theorem ys_V.keep (V : ys_V A Wt) (hs : A.sz) (ss : xs_ss A A') (hl : ∀ m, 5 ≤ m → A'.ls m = A.ls m) (h : ∀ g, g < A.nF → (A'.a 1 g = A.a 1 g ∧ A'.pl g = A.pl g) ∨ (¬ (A.a 1 g = 1 ∨ A.a 1 g = 2 ∨ A.a 1 g = 4) ∧ ¬ (A'.a 1 g = 1 ∨ A'.a 1 g = 2 ∨ A'.a 1 g = 4))) : ys_V A' Wt := by
  obtain ⟨v1, v2, v3⟩ := V
  obtain ⟨s1, s2, s3, s4, s5, s6⟩ := ss
  have h8 := hs.2.1
  refine ⟨⟨v1.1, fun x hx => by rw [s2]; exact v1.2 x hx⟩, fun g hg => ?_, fun c hc => ?_⟩
  · have hg : g < A.nF := s2 ▸ hg
    rw [v2 g hg]
    rcases h g hg with h | h
    · rw [h.1]
    · exact ⟨fun z => absurd z h.1, fun z => absurd z h.2⟩
  · have hc : c < A.nC := s1 ▸ hc
    have e : ∀ s, ∀ x ∈ Wt, ys_w A' s c x = ys_w A s c x := fun s x hx => by
      obtain ⟨g, hg, rfl⟩ := v1.2 x hx
      rw [ys_w_nI (by omega), ys_w_nI (by omega), s5]
      rcases h g hg with h | h
      · rw [h.1, h.2]
      · exact absurd ((v2 g hg).mp hx) h.1
    rw [hl _ (by omega), hl _ (by omega), List.filter_congr (e 1), List.filter_congr (e 2)]
    exact v3 c hc
theorem ys_er {l1 l3 : List Int32} {z : Int32} : (l1 ++ z :: l3).eraseIdx l1.length = l1 ++ l3 := by
  induction l1 with
  | nil => rfl
  | cons a l ih => show a :: (l ++ z :: l3).eraseIdx l.length = a :: (l ++ l3); rw [ih]
/-- one that waits is ready: first, what lies in the lists -/
theorem ys_V.out {l1 l3 : List Int32} {g : Nat} (V : ys_V A (l1 ++ nI g :: l3)) (hs : A.sz) (hg : g < A.nF) (ss : xs_ss A A') (h1 : ∀ f, f ≠ g → A'.a 1 f = A.a 1 f) (h0 : A'.a 1 g = 0) (h2 : ∀ f, A'.pl f = A.pl f)
    (hl : ∀ c, c < A.nC → (A'.ls (5 + c) = l1.filter (ys_w A 1 c) ++ l3.filter (ys_w A 1 c)) ∧ A'.ls (9 + c) = l1.filter (ys_w A 2 c) ++ l3.filter (ys_w A 2 c)) : ys_V A' (l1 ++ l3) := by
  obtain ⟨v1, v2, v3⟩ := V
  obtain ⟨s1, s2, s3, s4, s5, s6⟩ := ss
  have h8 := hs.2.1
  have nd := List.nodup_append.mp v1.1
  have nd2 := List.nodup_cons.mp nd.2.1
  have n1 : ¬ nI g ∈ l1 := fun z => nd.2.2 _ z _ List.mem_cons_self rfl
  have hm : ∀ x, x ∈ l1 ++ l3 ↔ x ∈ l1 ++ nI g :: l3 ∧ x ≠ nI g := fun x => by
    rw [List.mem_append, List.mem_append, List.mem_cons]
    constructor
    · rintro (h | h)
      · exact ⟨Or.inl h, fun e => n1 (e ▸ h)⟩
      · exact ⟨Or.inr (Or.inr h), fun e => nd2.1 (e ▸ h)⟩
    · rintro ⟨h | h | h, e⟩
      · exact Or.inl h
      · exact absurd h e
      · exact Or.inr h
  refine ⟨⟨List.nodup_append.mpr ⟨nd.1, nd2.2, fun a ha b hb => nd.2.2 a ha b (List.mem_cons_of_mem _ hb)⟩, fun x hx => by rw [s2]; exact v1.2 x ((hm x).mp hx).1⟩, fun f hf => ?_, fun c hc => ?_⟩
  · have hf : f < A.nF := s2 ▸ hf
    rw [hm, v2 f hf]
    by_cases e : f = g
    · subst e
      rw [h0]
      exact ⟨fun z => absurd rfl z.2, fun z => by rcases z with z | z | z <;> exact absurd z (by decide)⟩
    · rw [h1 f e]
      exact ⟨fun z => z.1, fun z => ⟨z, fun w => e (xs_inj (by omega) (by omega) w)⟩⟩
  · have hc : c < A.nC := s1 ▸ hc
    have e : ∀ s, ∀ x ∈ l1 ++ l3, ys_w A' s c x = ys_w A s c x := fun s x hx => by
      obtain ⟨f, hf, rfl⟩ := v1.2 x ((hm x).mp hx).1
      have hne : f ≠ g := fun w => ((hm _).mp hx).2 (by rw [w])
      rw [ys_w_nI (by omega), ys_w_nI (by omega), s5, h1 f hne, h2 f]
    rw [List.filter_congr (e 1), List.filter_congr (e 2), List.filter_append, List.filter_append]
    exact hl c hc
end YS
section YW
variable {y y' : yz_Y} {A A' : xs_A} {Wt : List Int32} {r : Nat}
/-- the answer of a move of the law's clock -/
def ys_to {β : Type} (y : yz_Y) (o : Option (yz_Y × β)) (b : β) (A' : xs_A) : Prop := ∃ y' Wt', o = some (y', b) ∧ ys_R y' A' Wt' ∧ ys_V A' Wt' ∧ ys_o y y'
/-- a fiber's current step -/
theorem ys_R.step (R : ys_R y A Wt) {f j : Nat} (hf : f < A.nF) (hj : j < A.sc f) : y.1 (40 + (12 * f + j)) (Int32.toNatClampNeg (0 : Int32)) = A.kd f j ∧ y.1 (40 + (12 * f + j)) (Int32.toNatClampNeg (1 : Int32)) = A.on f j ∧ y.1 (40 + (12 * f + j)) (Int32.toNatClampNeg (2 : Int32)) = A.tw f j :=
  have h := (R.2.2.2.2.2.2.2.2 f j hf hj).2
  ⟨h.1, h.2.1, h.2.2⟩
theorem ys_R.gP (R : ys_R y A Wt) (hs : A.sz) {f j : Nat} (hf : f < A.nF) (hj : j < A.sc f) : (yz_is y (40 + (12 * f + j)) 2 && xo_ix (0 : Int32) (y.2 (40 + (12 * f + j)))) = true ∧ (yz_is y (40 + (12 * f + j)) 2 && xo_ix (1 : Int32) (y.2 (40 + (12 * f + j)))) = true ∧ (yz_is y (40 + (12 * f + j)) 2 && xo_ix (2 : Int32) (y.2 (40 + (12 * f + j)))) = true := by
  rw [R.isP hs hf hj, (R.2.2.2.2.2.2.2.2 f j hf hj).1]
  decide
theorem ys_R.gT (R : ys_R y A Wt) (hs : A.sz) {f j : Nat} (hf : f < A.nF) (hj : j < A.sc f) : (yz_is y (20 + f) 5 && xo_ix (nI j) (y.2 (20 + f))) = true := by
  have := hs.2.2 f hf
  rw [R.isT hs hf, (R.2.2.2.2.2.2.1 f hf).1, xs_ix hj (by omega)]
  rfl
theorem ys_R.g5 (R : ys_R y A Wt) (hl : Wt.length ≤ 8) {i : Nat} (hi : i < Wt.length) : (yz_is y 5 2 && xo_ix (nI i) (y.2 5)) = true ∧ (yz_is y 5 2 && decide (y.2 5 ≤ 13) && xo_ix (nI i) (y.2 5)) = true := by
  rw [R.len5, xs_ix hi (by omega), ys_is4.2.1]
  exact ⟨rfl, by rw [decide_eq_true (by omega)]; rfl⟩
/-- the lists of those that wait lie in no row of their own -/
theorem ys_R.lists (R : ys_R y A Wt) {n : Nat} {l : List Int32} (hn : 5 ≤ n) (h4 : A.nC ≤ 4 := by first | assumption | omega) : ys_R y (A.setL n l) Wt := by
  obtain ⟨r1, r2, r3, r4, r5, r6, r7, r8, r9⟩ := R
  refine ⟨r1, r2, r3, fun c hc => ?_, ⟨?_, r5.2⟩, r6, r7, r8, r9⟩
  · have hc : c < A.nC := hc
    rw [xs_setL_ne (by omega)]; exact r4 c hc
  · rw [xs_setL_ne (by omega)]; exact r5.1
theorem xd_setL_comm {n m : Nat} {l l2 : List Int32} (h : n ≠ m) : (A.setL m l).setL n l2 = (A.setL n l2).setL m l := by
  unfold xs_A.setL
  refine congrArg (fun f => (A.nC, A.nF, A.sc, A.kd, A.on, A.tw, A.a, f)) ?_
  funext u
  show (if u = n then l2 else if u = m then l else A.ls u) = if u = m then l else if u = n then l2 else A.ls u
  by_cases h1 : u = n
  · rw [if_pos h1, if_neg (fun z => h (h1.symm.trans z)), if_pos h1]
  · rw [if_neg h1, if_neg h1]
/-- the loop of those that wait -/
theorem ys_wakeL {s : Int32} {c : Nat} (hs : A.sz) (w : xs_W A r) (V : ys_V A Wt) (R : ys_R y A Wt) (hs2 : s = 1 ∨ s = 2) (hc : c < A.nC) (hl0 : ∀ x ∈ Wt, ys_w A s c x = true → (A.ls 0).length < 8) : ∀ (l2 l1 : List Int32) (n : Nat), l1 ++ l2 = Wt → (∀ x ∈ l1, ys_w A s c x = false) → l2.length < n → 
    (∀ x ∈ Wt, ys_w A s c x = false) ∧ mX7_wake_b2 s (nI c) n y (nI l1.length) = some (y, ()) ∨ ∃ m1 g m3 y', Wt = m1 ++ nI g :: m3 ∧ (∀ x ∈ m1, ys_w A s c x = false) ∧ g < A.nF ∧ ys_w A s c (nI g) = true ∧ mX7_wake_b2 s (nI c) n y (nI l1.length) = some (y', ()) ∧ ys_R y' (A.ready g) (m1 ++ m3) ∧ ys_o y y' := by
  have h8 := hs.2.1
  have hc4 := hs.1
  have hl := V.len hs
  intro l2
  induction l2 with
  | nil =>
    intro l1 n e h1 hn
    rw [List.append_nil] at e
    subst e
    cases n with
    | zero => omega
    | succ n =>
      refine Or.inl ⟨h1, ?_⟩
      unfold mX7_wake_b2
      rw [if_pos ys_is4.2.1, if_pos (by rw [R.len5]; exact Int32.le_refl _)]
  | cons z l3 ih =>
    intro l1 n e h1 hn
    cases n with
    | zero => omega
    | succ n =>
      have hlen : Wt.length = l1.length + (l3.length + 1) := by rw [← e, List.length_append]; rfl
      have hi : l1.length < Wt.length := by omega
      have hz : z ∈ Wt := by rw [← e]; exact List.mem_append_right _ List.mem_cons_self
      obtain ⟨g, hg, hzg⟩ := V.1.2 z hz
      subst hzg
      have hst := (V.2.1 g hg).mp hz
      have hp := w.2.2.2.1 g hg hst
      obtain ⟨p1, p2, p3⟩ := w.pl hg
      have ev : y.1 5 (nI l1.length).toNatClampNeg = nI g := by
        rw [nI_clamp (by omega), R.2.2.2.2.1.2.2 l1.length hi, ← e, List.getD_eq_getElem?_getD, List.getElem?_append_right (Nat.le_refl _), Nat.sub_self]
        rfl
      obtain ⟨f1, f2, f3, f4, f5, f6⟩ := R.gF hg
      have hw : ys_w A s c (nI g) = decide (A.a 1 g = s ∧ A.on g (A.pl g) = nI c) := ys_w_nI (by omega)
      have step : ys_w A s c (nI g) = false → mX7_wake_b80 (mX7_wake_b2 s (nI c) n) s (nI c) (nI l1.length) y = mX7_wake_b2 s (nI c) n y (nI (l1 ++ [nI g]).length) := fun _ => by
        unfold mX7_wake_b80
        rw [nI_1, List.length_append]
        rfl
      have rc := fun (h : ys_w A s c (nI g) = false) => ih (l1 ++ [nI g]) n (by rw [List.append_assoc]; exact e) (fun x hx => by
        rcases List.mem_append.mp hx with hx | hx
        · exact h1 x hx
        · rw [List.mem_singleton.mp hx]; exact h) (by have : (nI g :: l3).length = l3.length + 1 := rfl; omega)
      have key : mX7_wake_b2 s (nI c) (n + 1) y (nI l1.length) = if ys_w A s c (nI g) = true then (mX7_ready (nI g) (yz_rem y 5 (nI l1.length))).bind (fun r4 => some (r4.1, ())) else mX7_wake_b2 s (nI c) n y (nI (l1 ++ [nI g]).length) := by
        rw [mX7_wake_b2, if_pos ys_is4.2.1, if_neg (by rw [R.len5]; exact nI_ge hi (by omega)), if_pos (R.g5 hl hi).1, ev, nI_clamp (by omega), if_pos (R.ixF hs hg), if_pos (R.isF hs hg), f1]
        by_cases hs1 : A.a 1 g = s
        · rw [if_pos hs1, if_pos (R.isF hs hg), if_pos (R.isF hs hg), f2, p1, if_pos (R.gT hs hg hp), nI_clamp (by omega), if_pos (R.gP hs hg hp).2.1, (R.step hg hp).2.1]
          by_cases ho : A.on g (A.pl g) = nI c
          · rw [if_pos ho, if_pos (R.g5 hl hi).1, if_pos (R.g5 hl hi).2, if_pos (by rw [hw]; exact decide_eq_true ⟨hs1, ho⟩)]
            rfl
          · have hwf : ys_w A s c (nI g) = false := by rw [hw]; exact decide_eq_false (fun z => ho z.2)
            rw [if_neg ho, if_neg (by rw [hwf]; decide), step hwf]
        · have hwf : ys_w A s c (nI g) = false := by rw [hw]; exact decide_eq_false (fun z => hs1 z.1)
          rw [if_neg hs1, if_neg (by rw [hwf]; decide), step hwf]
      rw [key]
      by_cases hwt : ys_w A s c (nI g) = true
      · rw [if_pos hwt]
        have R1 : ys_R (yz_rem y 5 (nI l1.length)) A (l1 ++ l3) := by
          have h9 := R.2.2.2.2.1.2.rem hi (by omega)
          rw [← e, ys_er] at h9
          exact R.wait hs h9
        obtain ⟨y', q1, q2, q3⟩ := ys_ready R1 hs hg (by have := hl0 (nI g) hz hwt; omega)
        refine Or.inr ⟨l1, g, l3, y', e.symm, h1, hg, hwt, ?_, q2, (ys_o.mv (by omega)).tr q3⟩
        rw [q1, Option.bind_some]
      · rw [if_neg hwt]
        exact rc (Bool.eq_false_iff.mpr hwt)
theorem ys_fil {p : Int32 → Bool} {l : List Int32} (h : ∀ x ∈ l, p x = false) : l.filter p = [] := List.filter_eq_nil_iff.mpr (fun x hx => by rw [h x hx]; decide)
theorem ys_wake {s : Int32} {c n : Nat} (R : ys_R y A Wt) (V : ys_V A Wt) (w : xs_W A r) (hc : c < A.nC) (hs2 : (s = 1 ∧ n = 5 + c) ∨ (s = 2 ∧ n = 9 + c)) : ys_to y (mX7_wake s (nI c) y) () (A.wake n) := by
  have hs := w.1
  have h8 := hs.2.1
  have hc4 := hs.1
  have hl := V.len hs
  have ln : A.ls n = Wt.filter (ys_w A s c) := by
    rcases hs2 with ⟨rfl, rfl⟩ | ⟨rfl, rfl⟩
    · exact (V.2.2 c hc).1
    · exact (V.2.2 c hc).2
  have room : ∀ x ∈ Wt, ys_w A s c x = true → (A.ls 0).length < 8 := fun x hx hw => by
    obtain ⟨g, hg, rfl⟩ := V.1.2 x hx
    rw [ys_w_nI (by omega), decide_eq_true_iff] at hw
    have h0 : A.a 1 g ≠ 0 := by rw [hw.1]; rcases hs2 with ⟨rfl, _⟩ | ⟨rfl, _⟩ <;> decide
    exact (w.2.2.2.2.2 0 (Or.inl rfl)).1.lt hs hg (fun z => h0 (((w.2.2.2.2.2 0 (Or.inl rfl)).2 g hg).mp z).1)
  unfold mX7_wake
  rcases ys_wakeL hs w V R (hs2.elim (fun z => Or.inl z.1) (fun z => Or.inr z.1)) hc room Wt [] xo_n rfl (fun x hx => by cases hx) (by show Wt.length < 300; omega) with ⟨h1, h2⟩ | ⟨l1, g, l3, y', e, a1, hg, hw, h2, R2, o2⟩
  · refine ⟨y, Wt, h2, ?_, ?_, ys_o.rf⟩
    all_goals
      have e : A.wake n = A := by
        unfold xs_A.wake
        rw [ln, ys_fil h1]
      rw [e]
      assumption
  · have hw2 := hw
    rw [ys_w_nI (by omega), decide_eq_true_iff] at hw2
    have eL : A.ls n = nI g :: l3.filter (ys_w A s c) := by
      rw [ln, e, List.filter_append, ys_fil a1, List.nil_append, List.filter_cons_of_pos hw]
    have eW : A.wake n = (A.setL n (l3.filter (ys_w A s c))).ready g := by
      unfold xs_A.wake
      rw [eL]
      show ((xs_A.set _ 1 (nI g).toNatClampNeg 0).setL 0 _) = _
      rw [nI_clamp (by omega)]
      rfl
    have hn0 : n ≠ 0 := by rcases hs2 with ⟨_, rfl⟩ | ⟨_, rfl⟩ <;> omega
    have hn5 : 5 ≤ n := by rcases hs2 with ⟨_, rfl⟩ | ⟨_, rfl⟩ <;> omega
    refine ⟨y', l1 ++ l3, h2, ?_, ?_, o2⟩
    · have e2 : A.wake n = (A.ready g).setL n (l3.filter (ys_w A s c)) := by
        rw [eW]
        unfold xs_A.ready
        rw [xs_setL_ne (fun z => hn0 z.symm)]
        exact xd_setL_comm (A := A.set 1 g 0) (fun z => hn0 z.symm)
      rw [e2]
      exact R2.lists hn5
    · subst e
      refine V.out hs hg xs_ss_wake (fun f hf => ?_) ?_ (fun f => congrArg Int32.toNatClampNeg (xs_wake_a (by omega))) (fun d hd => ?_)
      · rw [eW]; exact xs_set_ne (A := A) (fun z => hf z.2)
      · rw [eW]; exact xs_set_eq (A := A)
      · have q : ∀ m s2 d2, d2 < A.nC → ((s2 = 1 ∧ m = 5 + d2) ∨ (s2 = 2 ∧ m = 9 + d2)) → A.ls m = (l1 ++ nI g :: l3).filter (ys_w A s2 d2) → (A.wake n).ls m = l1.filter (ys_w A s2 d2) ++ l3.filter (ys_w A s2 d2) := fun m s2 d2 hd2 hm hA => by
          have hm0 : m ≠ 0 := by rcases hm with ⟨_, rfl⟩ | ⟨_, rfl⟩ <;> omega
          rw [xd_wake_ls hm0]
          by_cases em : m = n
          · have es : s2 = s ∧ d2 = c := by
              rcases hm with ⟨rfl, rfl⟩ | ⟨rfl, rfl⟩ <;> rcases hs2 with ⟨rfl, h9⟩ | ⟨rfl, h9⟩ <;> first | exact ⟨rfl, by omega⟩ | omega
            obtain ⟨rfl, rfl⟩ := es
            rw [if_pos em, eL, ys_fil a1]
            rfl
          · rw [if_neg em, hA, List.filter_append, List.filter_cons_of_neg]
            rw [ys_w_nI (by omega), decide_eq_true_iff]
            rintro ⟨z1, z2⟩
            have hs3 : s2 = s := z1.symm.trans hw2.1
            have hd3 : d2 = c := (nI_eq (by omega) (by omega)).mp (z2.symm.trans hw2.2)
            subst hs3 hd3
            apply em
            rcases hm with ⟨rfl, rfl⟩ | ⟨rfl, rfl⟩ <;> rcases hs2 with ⟨h9, rfl⟩ | ⟨h9, rfl⟩ <;> first | rfl | exact absurd h9 (by decide)
        exact ⟨q (5 + d) 1 d hd (Or.inl ⟨rfl, rfl⟩) (V.2.2 d hd).1, q (9 + d) 2 d hd (Or.inr ⟨rfl, rfl⟩) (V.2.2 d hd).2⟩
end YW
section YG
variable {y y' : yz_Y} {A A' P : xs_A} {Wt : List Int32} {r : Nat}
theorem xs_W.line8 (w : xs_W A r) : (A.ls 0).length ≤ 8 := Nat.le_trans (xs_pig A.nF _ (w.2.2.2.2.2 0 (Or.inl rfl)).1.1 (w.2.2.2.2.2 0 (Or.inl rfl)).1.2) w.1.2.1
theorem ys_V.setR (V : ys_V A Wt) (hs : A.sz) (h0 : A.a 1 r = 0) {t i : Nat} {v : Int32} (ht : t ≠ 1) (h2 : t = 2 → i = r) : ys_V (A.set t i v) Wt := V.keep hs xs_ss.rf (fun _ _ => rfl) (fun g hg => by
  have e1 : (A.set t i v).a 1 g = A.a 1 g := xs_set_ne (fun z => ht z.1.symm)
  by_cases e : g = r
  · subst e
    right
    rw [e1, h0]
    exact ⟨by decide, by decide⟩
  · exact Or.inl ⟨e1, congrArg Int32.toNatClampNeg (xs_set_ne (fun z => e (z.2.trans (h2 z.1.symm))))⟩)
theorem ys_V.setL (V : ys_V A Wt) (hs : A.sz) {n : Nat} {l : List Int32} (hn : n < 5) : ys_V (A.setL n l) Wt := V.keep hs xs_ss.rf (fun m hm => xs_setL_ne (by omega)) (fun _ _ => Or.inl ⟨rfl, rfl⟩)
/-- a fiber at work waits -/
theorem ys_V.wait (V : ys_V A Wt) (hs : A.sz) (hf : r < A.nF) (h0 : A.a 1 r = 0) {s : Int32} (hs3 : s = 1 ∨ s = 2 ∨ s = 4) (ss : xs_ss A A') (h1 : A'.a 1 r = s) (he : ∀ g, g ≠ r → A'.a 1 g = A.a 1 g) (h2 : ∀ g, A'.pl g = A.pl g)
    (hl : ∀ c, c < A.nC → (A'.ls (5 + c) = A.ls (5 + c) ++ if s = 1 ∧ A.on r (A.pl r) = nI c then [nI r] else []) ∧ A'.ls (9 + c) = A.ls (9 + c) ++ if s = 2 ∧ A.on r (A.pl r) = nI c then [nI r] else []) : ys_V A' (Wt ++ [nI r]) := by
  obtain ⟨v1, v2, v3⟩ := V
  obtain ⟨s1, s2, s3, s4, s5, s6⟩ := ss
  have h8 := hs.2.1
  have hn : ¬ nI r ∈ Wt := fun z => by
    have := (v2 r hf).mp z
    rw [h0] at this
    rcases this with z | z | z <;> exact absurd z (by decide)
  refine ⟨⟨List.nodup_append.mpr ⟨v1.1, List.nodup_cons.mpr ⟨fun z => (by cases z), List.Pairwise.nil⟩, fun a ha b hb e => hn (by rw [List.mem_singleton.mp hb] at e; exact e ▸ ha)⟩, fun x hx => ?_⟩, fun g hg => ?_, fun c hc => ?_⟩
  · rw [s2]
    rcases List.mem_append.mp hx with hx | hx
    · exact v1.2 x hx
    · exact ⟨r, hf, List.mem_singleton.mp hx⟩
  · have hg : g < A.nF := s2 ▸ hg
    rw [List.mem_append, List.mem_singleton]
    by_cases e : g = r
    · subst e
      rw [h1]
      exact ⟨fun _ => hs3, fun _ => Or.inr rfl⟩
    · rw [he g e, ← v2 g hg]
      exact ⟨fun z => z.elim id (fun z => absurd (xs_inj (by omega) (by omega) z) e), Or.inl⟩
  · have hc : c < A.nC := s1 ▸ hc
    have e : ∀ s, ∀ x ∈ Wt, ys_w A' s c x = ys_w A s c x := fun s x hx => by
      obtain ⟨g, hg, rfl⟩ := v1.2 x hx
      have hne : g ≠ r := fun w => hn (by rw [← w]; exact hx)
      rw [ys_w_nI (by omega), ys_w_nI (by omega), s5, he g hne, h2 g]
    have er : ∀ s2, [nI r].filter (ys_w A' s2 c) = if s = s2 ∧ A.on r (A.pl r) = nI c then [nI r] else [] := fun s2 => by
      have : ys_w A' s2 c (nI r) = decide (s = s2 ∧ A.on r (A.pl r) = nI c) := by rw [ys_w_nI (by omega), h1, h2, s5]
      by_cases z : s = s2 ∧ A.on r (A.pl r) = nI c
      · rw [if_pos z, List.filter_cons_of_pos (by rw [this]; exact decide_eq_true z)]; rfl
      · rw [if_neg z, List.filter_cons_of_neg (by rw [this, decide_eq_false z]; decide)]; rfl
    rw [List.filter_append, List.filter_append, List.filter_congr (e 1), List.filter_congr (e 2), er 1, er 2, ← (v3 c hc).1, ← (v3 c hc).2]
    exact hl c hc
theorem ys_R.chan (R : ys_R y A Wt) (hs : A.sz) {c : Nat} (hc : c < A.nC) : xo_ix (nI c) (y.2 2) = true ∧ yz_is y (6 + c) 2 = true ∧ (yz_is y 1 2 && xo_ix (nI c) (y.2 1)) = true ∧ y.2 (6 + c) = (A.ls (1 + c)).length ∧ y.1 1 c = A.a 8 c := by
  have := hs.1
  refine ⟨?_, R.isG hs hc, ?_, (R.2.2.2.1 c hc).1, R.2.2.1 c hc⟩
  · rw [R.1.2.1]; exact xs_ix hc (by omega)
  · rw [R.1.1, ys_is4.2.2, xs_ix hc (by omega)]; rfl
theorem ys_isSent {c : Nat} {v : Int32} (R : ys_R y A Wt) (V : ys_V A Wt) (w : xs_W A r) (hc : c < A.nC) : (A.a 8 c ≤ nI (A.ls (1 + c)).length → mX7_isSent (nI c) v y = some (y, 0)) ∧ (¬ A.a 8 c ≤ nI (A.ls (1 + c)).length → ys_to y (mX7_isSent (nI c) v y) 1 (A.put c v)) := by
  have hs := w.1
  have hc4 := hs.1
  obtain ⟨g1, g2, g3, g4, g5⟩ := R.chan hs hc
  obtain ⟨u1, u2, u3⟩ := w.full hc
  refine ⟨fun h => ?_, fun h => ?_⟩
  · unfold mX7_isSent
    rw [nI_clamp (by omega), if_pos g1, if_pos g2, if_pos g3, g4, g5, if_neg (Int32.not_lt.mpr h)]
  · have R1 := R.drop hs hc ((R.2.2.2.1 c hc).app (v := v))
    have W1 : xs_W (A.setL (1 + c) (A.ls (1 + c) ++ [v])) r := w.drops hc (fun p hp e => by
      rw [List.length_append]
      show (A.ls (1 + c)).length + 1 ≤ p
      refine Nat.lt_of_not_le (fun z => h ?_)
      rw [e]
      exact nI_le z (by omega))
    obtain ⟨y', Wt', q1, q2, q3, q4⟩ := ys_wake (s := 2) R1 (V.setL hs (by omega)) W1 hc (Or.inr ⟨rfl, rfl⟩)
    refine ⟨y', Wt', ?_, q2, q3, (ys_o.mv (by omega)).tr q4⟩
    unfold mX7_isSent
    rw [nI_clamp (by omega), if_pos g1, if_pos g2, if_pos g3, g4, g5, if_pos (Int32.not_le.mp h), if_pos g1, if_pos (by rw [g1, g2, decide_eq_true (by omega)]; rfl), xo_let_eq, show mX7_wake 2 (nI c) (yz_app y (6 + c) v) = _ from q1, Option.bind_some]
/-- who waits for fiber f goes on -/
theorem ys_find {a1 : Int32} {K : yz_Y → Int32 → Option (yz_Y × Unit)} (R : ys_R y A Wt) (hs : A.sz) {l1 l3 : List Int32} {g : Nat} (V : ys_V A Wt) (e : Wt = l1 ++ nI g :: l3) : ∀ (m0 l0 : List Int32) (n : Nat), l0 ++ m0 = l1 → m0.length < n → mX7_go_b448 K a1 (nI g) n y (nI l0.length) = (mX7_ready (nI g) (yz_rem y 5 (nI l1.length))).bind fun r6 => mX7_go_b485 K a1 (nI g) r6.1 := by
  have hl := V.len hs
  have nd := List.nodup_append.mp (e ▸ V.1.1)
  intro m0
  induction m0 with
  | nil =>
    intro l0 n h1 hn
    rw [List.append_nil] at h1
    subst h1
    cases n with
    | zero => omega
    | succ n =>
      have hi : l0.length < Wt.length := by rw [e, List.length_append]; show _ < _ + (l3.length + 1); omega
      have ev : y.1 5 (nI l0.length).toNatClampNeg = nI g := by
        rw [nI_clamp (by omega), R.2.2.2.2.1.2.2 l0.length hi, e, List.getD_eq_getElem?_getD, List.getElem?_append_right (Nat.le_refl _), Nat.sub_self]
        rfl
      rw [mX7_go_b448, if_pos (R.g5 hl hi).1, ev, if_pos rfl, if_pos (R.g5 hl hi).2]
      rfl
  | cons z m0 ih =>
    intro l0 n h1 hn
    cases n with
    | zero => omega
    | succ n =>
      have e2 : Wt = l0 ++ z :: (m0 ++ nI g :: l3) := by rw [e, ← h1, List.append_assoc]; rfl
      have hi : l0.length < Wt.length := by rw [e2, List.length_append]; show _ < _ + ((m0 ++ nI g :: l3).length + 1); omega
      have ev : y.1 5 (nI l0.length).toNatClampNeg = z := by
        rw [nI_clamp (by omega), R.2.2.2.2.1.2.2 l0.length hi, e2, List.getD_eq_getElem?_getD, List.getElem?_append_right (Nat.le_refl _), Nat.sub_self]
        rfl
      have hne : z ≠ nI g := nd.2.2 z (by rw [← h1]; exact List.mem_append_right _ List.mem_cons_self) _ List.mem_cons_self
      rw [mX7_go_b448, if_pos (R.g5 hl hi).1, ev, if_neg hne, nI_1]
      have := ih (l0 ++ [z]) n (by rw [List.append_assoc]; exact h1) (by have : (z :: m0).length = m0.length + 1 := rfl; omega)
      rw [List.length_append] at this
      exact this
theorem ys_split {x : Int32} : ∀ {l : List Int32}, x ∈ l → ∃ l1 l3, l = l1 ++ x :: l3 := fun h => List.append_of_mem h
theorem ys_joins {f : Nat} (hf8 : f < 8) : ∀ (m i n : Nat) (y : yz_Y) (A : xs_A) (Wt : List Int32), ys_R y A Wt → ys_V A Wt → xs_W A 99 → i + m = A.nF → m < n → ys_to y (mX7_go_b391 (nI f) n y (nI i)) () (xs_A.joins f m i A) := by
  intro m
  induction m with
  | zero =>
    intro i n y A Wt R V w hi hn
    cases n with
    | zero => omega
    | succ n =>
      have h8 := w.1.2.1
      refine ⟨y, Wt, ?_, R, V, ys_o.rf⟩
      rw [mX7_go_b391, R.1.2.2, if_pos (nI_le (by omega) (by omega))]
  | succ m ih =>
    intro i n y A Wt R V w hi hn
    cases n with
    | zero => omega
    | succ n =>
      have hs := w.1
      have h8 := hs.2.1
      have hg : i < A.nF := by omega
      obtain ⟨f1, f2, f3, f4, f5, f6⟩ := R.gF hg
      obtain ⟨p1, p2, p3⟩ := w.pl hg
      have go : mX7_go_b485 (mX7_go_b391 (nI f) n) (nI f) (nI i) y = mX7_go_b391 (nI f) n y (nI (i + 1)) := by unfold mX7_go_b485; rw [nI_1]
      unfold xs_A.joins
      rw [mX7_go_b391, if_neg (by rw [R.1.2.2]; exact nI_ge hg (by omega)), if_pos (R.ixF hs hg), nI_clamp (by omega), if_pos (R.isF hs hg), f1]
      by_cases h4 : A.a 1 i = 4
      · have hp := w.2.2.2.1 i hg (Or.inr (Or.inr h4))
        rw [if_pos h4, if_pos h4, if_pos (R.ixF hs hg), if_pos (R.isF hs hg), if_pos (R.ixF hs hg), if_pos (R.isF hs hg), f2, p1, if_pos (R.gT hs hg hp), nI_clamp (by omega), if_pos (R.gP hs hg hp).2.1, (R.step hg hp).2.1]
        by_cases ho : A.on i (A.pl i) = nI f
        · rw [if_pos ho, if_pos ho]
          obtain ⟨l1, l3, e⟩ := ys_split ((V.2.1 i hg).mpr (Or.inr (Or.inr h4)))
          have hl := V.len hs
          have hi1 : l1.length < Wt.length := by rw [e, List.length_append]; show _ < _ + (l3.length + 1); omega
          have h9 := ys_find (K := mX7_go_b391 (nI f) n) (a1 := nI f) R hs V e l1 [] xo_n rfl (by show l1.length < 300; omega)
          have R1 : ys_R (yz_rem y 5 (nI l1.length)) A (l1 ++ l3) := by
            have h9 := R.2.2.2.2.1.2.rem hi1 (by omega)
            rw [e, ys_er] at h9
            exact R.wait hs h9
          obtain ⟨y', q1, q2, q3⟩ := ys_ready R1 hs hg (by have := w.line8; omega)
          have W2 := w.ready hg (by omega) ⟨by rw [h4]; decide, by rw [h4]; decide, by rw [h4]; decide⟩
          have V2 : ys_V (A.ready i) (l1 ++ l3) := by
            have V0 := V
            rw [e] at V0
            refine V0.out hs hg ⟨rfl, rfl, rfl, rfl, rfl, rfl⟩ (fun f hf => xs_set_ne (A := A) (fun z => hf z.2)) (xs_set_eq (A := A)) (fun f => congrArg Int32.toNatClampNeg (xd_ready_sa 2 f (by omega))) (fun c hc => ?_)
            have hq : ∀ s, s ≠ 4 → (l1 ++ nI i :: l3).filter (ys_w A s c) = l1.filter (ys_w A s c) ++ l3.filter (ys_w A s c) := fun s hs4 => by
              rw [List.filter_append, List.filter_cons_of_neg]
              rw [ys_w_nI (by omega), decide_eq_true_iff]
              exact fun z => hs4 (z.1.symm.trans h4)
            rw [← hq 1 (by decide), ← hq 2 (by decide), ← e]
            exact ⟨(xs_setL_ne (by omega)).trans (V.2.2 c hc).1, (xs_setL_ne (by omega)).trans (V.2.2 c hc).2⟩
          obtain ⟨y2, Wt2, t1, t2, t3, t4⟩ := ih (i + 1) n y' (A.ready i) (l1 ++ l3) q2 V2 W2 (by show i + 1 + m = A.nF; omega) (by omega)
          refine ⟨y2, Wt2, ?_, t2, t3, ((ys_o.mv (by omega)).tr q3).tr t4⟩
          rw [show mX7_go_b448 (mX7_go_b391 (nI f) n) (nI f) (nI i) xo_n y 0 = _ from h9, q1, Option.bind_some]
          unfold mX7_go_b485
          rw [nI_1]
          exact t1
        · rw [if_neg ho, if_neg ho, go]
          exact ih (i + 1) n y A Wt R V w (by omega) (by omega)
      · rw [if_neg h4, if_neg h4, go]
        exact ih (i + 1) n y A Wt R V w (by omega) (by omega)
theorem ys_b358 (R : ys_R y A Wt) (V : ys_V A Wt) (w : xs_W A r) (hf : r < A.nF) (h0 : A.a 1 r = 0) : ys_to y (mX7_go_b358 (nI r) r y) () (A.fin r) := by
  have hs := w.1
  have h8 := hs.2.1
  obtain ⟨f1, f2, f3, f4, f5, f6⟩ := R.gF hf
  unfold mX7_go_b358 xs_A.fin
  rw [if_pos (R.isF hs hf), if_pos (R.isF hs hf), if_pos (R.isT hs hf), (R.2.2.2.2.2.2.1 r hf).1, f2, if_pos h0]
  by_cases hle : nI (A.sc r) ≤ A.a 2 r
  · rw [if_pos hle, if_pos hle, if_pos (R.isF hs hf), xo_let_eq]
    have R1 := R.setF hs (t := 1) (by omega) hf 5
    have V1 : ys_V (A.set 1 r 5) Wt := V.keep hs xs_ss.rf (fun _ _ => rfl) (fun g hg => by
      by_cases e : g = r
      · subst e
        right
        rw [h0, xs_set_eq]
        exact ⟨by decide, by decide⟩
      · exact Or.inl ⟨xs_set_ne (fun z => e z.2), congrArg Int32.toNatClampNeg (xs_set_ne (by omega))⟩)
    have W1 : xs_W (A.set 1 r 5) 99 := (w.st hf (by rw [h0]; decide) (s := 5) (by decide) (fun z => absurd z (by decide))).rest (by rw [xs_set_eq]; decide)
    obtain ⟨y2, Wt2, t1, t2, t3, t4⟩ := ys_joins (f := r) (by omega) A.nF 0 9 _ _ _ R1 V1 W1 (by show 0 + A.nF = A.nF; omega) (by omega)
    exact ⟨y2, Wt2, t1, t2, t3, (ys_o.st (by omega)).tr t4⟩
  · rw [if_neg hle, if_neg hle, if_pos (by rw [ys_is4.1, R.len4, decide_eq_true (by have := w.line8; omega)]; rfl), xo_let_eq]
    exact ⟨_, Wt, rfl, R.line hs (R.2.2.2.2.1.1.app), V.setL hs (by omega), ys_o.mv (by omega)⟩
end YG
