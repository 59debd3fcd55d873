/-! who is next; what was told -/
section XQ
variable {A A' P : xs_A} {r : Nat}
/-- it sleeps, and wakes now -/
def xd_cd (A : xs_A) (g : Nat) : Prop := A.a 1 g = 3 ∧ A.a 6 g = A.a 9 0
theorem xd_rise_ls : ∀ (m i : Nat) (A : xs_A), ∃ l, (xs_A.rise m i A).ls 0 = A.ls 0 ++ l ∧ ((∀ g, i ≤ g → g < i + m → ¬ xd_cd A g) → l = []) ∧ ∀ g, i ≤ g → g < i + m → xd_cd A g → (∀ f, i ≤ f → f < g → ¬ xd_cd A f) → ∃ l2, l = nI g :: l2 := by
  intro m
  induction m with
  | zero => intro i A; exact ⟨[], (List.append_nil _).symm, fun _ => rfl, fun g h1 h2 => absurd h2 (by omega)⟩
  | succ m ih =>
    intro i A
    unfold xs_A.rise
    by_cases hc : xd_cd A i
    · rw [if_pos hc.1, if_pos hc.2]
      obtain ⟨l, e, _, _⟩ := ih (i + 1) (A.ready i)
      refine ⟨nI i :: l, ?_, fun h => absurd hc (h i (Nat.le_refl _) (by omega)), fun g h1 h2 h3 h4 => ?_⟩
      · rw [e]
        show (if 0 = 0 then A.ls 0 ++ [nI i] else A.ls 0) ++ l = _
        rw [if_pos rfl, List.append_assoc]; rfl
      · by_cases e2 : g = i
        · exact ⟨l, by rw [e2]⟩
        · exact absurd hc (h4 i (Nat.le_refl _) (by omega))
    · have e0 : (if A.a 1 i = 3 then (if A.a 6 i = A.a 9 0 then A.ready i else A) else A) = A := by
        by_cases h3 : A.a 1 i = 3
        · rw [if_pos h3, if_neg (fun z => hc ⟨h3, z⟩)]
        · rw [if_neg h3]
      rw [e0]
      obtain ⟨l, e, h1, h2⟩ := ih (i + 1) A
      refine ⟨l, e, fun h => h1 (fun g a b => h g (by omega) (by omega)), fun g a b h3 h4 => ?_⟩
      have : g ≠ i := fun z => hc (z ▸ h3)
      exact h2 g (by omega) (by omega) h3 (fun f a b => h4 f (by omega) b)
/-- who has the next turn; -1: nobody -/
def xd_hd (A : xs_A) : Int32 := match (xs_A.rise A.nF 0 A).ls 0 with
  | [] => -1
  | x :: _ => x
theorem xd_hd_of {x : Int32} {l : List Int32} (h : (xs_A.rise A.nF 0 A).ls 0 = x :: l) : xd_hd A = x := by
  unfold xd_hd; rw [h]
theorem xd_hd_nil (h : (xs_A.rise A.nF 0 A).ls 0 = []) : xd_hd A = -1 := by
  unfold xd_hd; rw [h]
theorem xd_hd_line {x : Int32} {l : List Int32} (h : A.ls 0 = x :: l) : xd_hd A = x := by
  obtain ⟨l2, e, _, _⟩ := xd_rise_ls A.nF 0 A
  exact xd_hd_of (l := l ++ l2) (by rw [e, h]; rfl)
theorem xd_hd_none (h : A.ls 0 = []) (hn : ∀ g, g < A.nF → ¬ xd_cd A g) : xd_hd A = -1 := by
  obtain ⟨l2, e, h1, _⟩ := xd_rise_ls A.nF 0 A
  exact xd_hd_nil (by rw [e, h, h1 (fun g _ hg => hn g (by omega))]; rfl)
theorem xd_hd_wake (h : A.ls 0 = []) {g : Nat} (hg : g < A.nF) (hc : xd_cd A g) (hf : ∀ f, f < g → ¬ xd_cd A f) : xd_hd A = nI g := by
  obtain ⟨l2, e, _, h2⟩ := xd_rise_ls A.nF 0 A
  obtain ⟨l3, e3⟩ := h2 g (Nat.zero_le _) (by omega) hc (fun f _ => hf f)
  exact xd_hd_of (l := l3) (by rw [e, h, e3]; rfl)
/-- a turn: who is next has it -/
theorem xd_turn (w : xs_W A 99) : ((xd_hd A = -1 ∧ xd_id A = 1) ∨ ∃ f, f < A.nF ∧ xd_hd A = nI f ∧ xd_id A = 0) ∧ (∀ g, g < A.nF → A.turn.a 5 g = A.a 5 g + if nI g = xd_hd A then 1 else 0) ∧ ∀ g, g < A.nF → ∃ k, k ≤ 4 ∧ A.turn.a 4 g = A.a 4 g + nI k ∧ (nI g ≠ xd_hd A → k = 0) := by
  have h8 := w.1.2.1
  have w1 := xs_W.rise A.nF 0 A w (by omega)
  cases he : (xs_A.rise A.nF 0 A).ls 0 with
  | nil =>
    obtain ⟨t1, t2, t3⟩ := xd_turn0 he
    have eh := xd_hd_nil he
    refine ⟨Or.inl ⟨eh, by unfold xd_id; rw [if_pos he]⟩, fun g hg => ?_, fun g hg => ⟨0, by omega, ?_, fun _ => rfl⟩⟩
    · have hne : ¬ nI g = xd_hd A := by
        rw [eh]
        intro z
        have := congrArg Int32.toInt z
        rw [nI_toInt (by omega), show (-1 : Int32).toInt = -1 from rfl] at this
        omega
      rw [if_neg hne, Int32.add_zero]
      exact t3 5 g (by omega) (by omega) (by omega)
    · rw [t3 4 g (by omega) (by omega) (by omega), show nI 0 = (0 : Int32) from rfl, Int32.add_zero]
  | cons x l =>
    obtain ⟨f, hf, hx, h0, _⟩ := w1.1.work he
    have hf8 : f < A.nF := by rw [← w1.2.2.1]; exact hf
    obtain ⟨t1, t2, t3, t4, k, hk, t5⟩ := xd_turn1 he (f := f) (by rw [hx, nI_clamp (by omega)]) (by omega)
    have eh : xd_hd A = nI f := (xd_hd_of he).trans hx
    rw [eh]
    refine ⟨Or.inr ⟨f, hf8, rfl, by unfold xd_id; rw [if_neg (by rw [he]; exact List.cons_ne_nil _ _)]⟩, fun g hg => ?_, fun g hg => ?_⟩
    · rw [t3 g]
      by_cases e : g = f
      · rw [if_pos e, if_pos (by rw [e])]
      · rw [if_neg e, if_neg (fun z => e (xs_inj (by omega) (by omega) z)), Int32.add_zero]
    · by_cases e : g = f
      · subst e
        exact ⟨k, hk, t5, fun z => absurd rfl z⟩
      · exact ⟨0, by omega, by rw [t4 g e, show nI 0 = (0 : Int32) from rfl, Int32.add_zero], fun _ => rfl⟩
/-! what was told -/
theorem xd_Ud_ex {p : xs_A → Prop} : ∀ (m i : Nat) (A : xs_A), ∃ v, xs_Ud p m i A v := by
  intro m
  induction m with
  | zero =>
    intro i A
    by_cases h : p A
    · exact ⟨_, Or.inl ⟨h, rfl⟩⟩
    · exact ⟨_, Or.inr ⟨h, rfl⟩⟩
  | succ m ih =>
    intro i A
    by_cases h : p A
    · exact ⟨_, Or.inl ⟨h, rfl⟩⟩
    · obtain ⟨v, hv⟩ := ih (i + 1) A.turn
      exact ⟨v, Or.inr ⟨h, hv⟩⟩
theorem xd_udv (p : xs_A → Prop) (A : xs_A) : xs_Ud p 200 0 A (xs_udv p A) := by
  obtain ⟨v, hv⟩ := xd_Ud_ex (p := p) 200 0 A
  have := xs_udv_eq hv
  rw [← this]
  exact hv
theorem xd_Ud_rg {p : xs_A → Prop} {v : Int32} : ∀ (m i : Nat) (A : xs_A), xs_Ud p m i A v → (p A → v = nI i) ∧ (¬ p A → v = -1 ∨ ∃ k, i < k ∧ k ≤ i + m ∧ v = nI k) := by
  intro m
  induction m with
  | zero =>
    intro i A h
    rcases h with ⟨a, b⟩ | ⟨a, b⟩
    · exact ⟨fun _ => b, fun z => absurd a z⟩
    · exact ⟨fun z => absurd z a, fun _ => Or.inl b⟩
  | succ m ih =>
    intro i A h
    rcases h with ⟨a, b⟩ | ⟨a, b⟩
    · exact ⟨fun _ => b, fun z => absurd a z⟩
    · refine ⟨fun z => absurd z a, fun _ => ?_⟩
      obtain ⟨h1, h2⟩ := ih (i + 1) A.turn b
      by_cases hp : p A.turn
      · exact Or.inr ⟨i + 1, by omega, by omega, h1 hp⟩
      · rcases h2 hp with h | ⟨k, k1, k2, k3⟩
        · exact Or.inl h
        · exact Or.inr ⟨k, by omega, by omega, k3⟩
theorem xd_Ud_next {p : xs_A → Prop} {v : Int32} {m i : Nat} (h : xs_Ud p (m + 1) i A v) (hn : ¬ p A) : xs_Ud p m (i + 1) A.turn v := by
  rcases h with ⟨a, _⟩ | ⟨_, b⟩
  · exact absurd a hn
  · exact b
theorem xd_Pw_ex {c : Nat} : ∀ (m p : Nat), ∃ v, xs_Pw A c m p v := by
  intro m
  induction m with
  | zero => intro p; exact ⟨-1, rfl⟩
  | succ m ih =>
    intro p
    by_cases h : xs_Wd 100 (A.set 8 c (nI p))
    · exact ⟨_, Or.inl ⟨h, rfl⟩⟩
    · obtain ⟨v, hv⟩ := ih (p + 1)
      exact ⟨v, Or.inr ⟨h, hv⟩⟩
theorem xd_Pw_rg {c : Nat} {v : Int32} : ∀ (m p : Nat), xs_Pw A c m p v → v = -1 ∨ ∃ q, p ≤ q ∧ q < p + m ∧ v = nI q := by
  intro m
  induction m with
  | zero => intro p h; exact Or.inl h
  | succ m ih =>
    intro p h
    rcases h with ⟨_, b⟩ | ⟨_, b⟩
    · exact Or.inr ⟨p, by omega, by omega, b⟩
    · rcases ih (p + 1) b with h | ⟨q, q1, q2, q3⟩
      · exact Or.inl h
      · exact Or.inr ⟨q, by omega, by omega, q3⟩
theorem xd_pwv (w : xs_W A 99) {c : Nat} (hc : c < A.nC) : ∃ p, 1 ≤ p ∧ p ≤ 8 ∧ A.a 8 c = nI p ∧ (A.ls (1 + c)).length ≤ p ∧ (xs_pwv A c = -1 ∨ ∃ q, p ≤ q ∧ q ≤ 8 ∧ xs_pwv A c = nI q) := by
  obtain ⟨p, p1, p2, p3, p4⟩ := w.pw hc
  refine ⟨p, p1, p2, p3, p4, ?_⟩
  obtain ⟨v, hv⟩ := xd_Pw_ex (A := A) (c := c) (9 - p) p
  have e := xs_pwv_eq p3 p2 hv
  rcases xd_Pw_rg _ _ hv with h | ⟨q, q1, q2, q3⟩
  · exact Or.inl (e.symm.trans h)
  · exact Or.inr ⟨q, q1, by omega, e.symm.trans q3⟩
theorem xd_turns_end : ∀ (n : Nat) (A : xs_A), A.turns (n + 1) = (A.turns n).turn := by
  intro n
  induction n with
  | zero => intro A; rfl
  | succ n ih => intro A; exact ih A.turn
end XQ
/-! the law: a turn -/
section LT
variable {y y' : yz_Y} {A A' P : xs_A} {Wt : List Int32} {r : Nat} {h h' : xw_M}
variable {L : Nat} {xs : Nat → Int32} {K802 : xw_M → yz_Y → Int32 → Int32 → Int32 → Option (xw_M × yz_Y × Unit)} {K22 : xw_M → yz_Y → Int32 → Option (xw_M × yz_Y × Unit)} {a3 a14 a15 a16 a17 a18 a19 a20 a21 : Int32}
theorem ys_R.oth (R : ys_R y A Wt) (hs : A.sz) (e : ∀ k, k < 136 → y'.1 k = y.1 k ∧ y'.2 k = y.2 k) : ys_R y' A Wt := by
  obtain ⟨s1, s2, s3⟩ := hs
  obtain ⟨r1, r2, r3, r4, r5, r6, r7, r8, r9⟩ := R
  refine ⟨⟨(e 1 (by omega)).2.trans r1.1, (e 2 (by omega)).2.trans r1.2.1, (e 3 (by omega)).2.trans r1.2.2⟩, by rw [(e 0 (by omega)).1]; exact r2, fun c hc => by rw [(e 1 (by omega)).1]; exact r3 c hc, fun c hc => ?_, ⟨?_, ?_⟩, fun f t hf h1 h2 => by rw [(e _ (by omega)).1]; exact r6 f t hf h1 h2, fun f hf => by rw [(e _ (by omega)).2, (e _ (by omega)).2]; exact r7 f hf, fun f j hf hj => by rw [(e _ (by omega)).1]; exact r8 f j hf hj, fun f j hf hj => ?_⟩
  · have := r4 c hc
    exact ⟨(e _ (by omega)).2.trans this.1, fun i hi => by rw [(e _ (by omega)).1]; exact this.2 i hi⟩
  · exact ⟨(e _ (by omega)).2.trans r5.1.1, fun i hi => by rw [(e _ (by omega)).1]; exact r5.1.2 i hi⟩
  · exact ⟨(e _ (by omega)).2.trans r5.2.1, fun i hi => by rw [(e _ (by omega)).1]; exact r5.2.2 i hi⟩
  · have h12 := s3 f hf
    rw [(e _ (by omega)).1, (e _ (by omega)).2]; exact r9 f j hf hj
theorem ys_G.oth (G : ys_G A h y) (e : ∀ k, k < 136 → y'.1 k = y.1 k ∧ y'.2 k = y.2 k) : ys_G A h y' := by
  obtain ⟨j, I, Wt, R, V⟩ := G
  exact ⟨j, I, Wt, R.oth I.1.1 e, V⟩
theorem ys_G.nw (G : ys_G A h y) {k n : Nat} (hk : 136 ≤ k) : ys_G A h (yz_nw y k n) := G.oth (fun a ha => ⟨if_neg (by omega), (if_neg (by omega)).trans (if_neg (by omega))⟩)
theorem ys_G.st (G : ys_G A h y) {k j : Nat} {v : Int32} (hk : 136 ≤ k) : ys_G A h (yz_st y k j v) := G.oth (fun a ha => ⟨funext fun i => yz_st_at (fun z => by omega), rfl⟩)
/-- the two rows of a turn -/
def ys_2 (y : yz_Y) (n : Nat) : Prop := (y.2 150 = 1 ∧ y.2 140 = n) ∧ (y.2 151 = 1 ∧ y.2 141 = n)
theorem ys_2.g (H : ys_2 y r) {i : Nat} (hi : i < r) (hr : r ≤ 8) : (yz_is y 140 2 && xo_ix (nI i) (y.2 140)) = true ∧ (yz_is y 141 2 && xo_ix (nI i) (y.2 141)) = true := by
  have e1 : yz_is y 140 2 = true := by
    unfold yz_is yz_ex
    rw [if_neg (by omega), if_neg (by omega), if_neg (by omega), if_neg (by omega), if_neg (by omega), if_neg (by omega), H.1.1]
    rfl
  have e2 : yz_is y 141 2 = true := by
    unfold yz_is yz_ex
    rw [if_neg (by omega), if_neg (by omega), if_neg (by omega), if_neg (by omega), if_neg (by omega), if_neg (by omega), H.2.1]
    rfl
  rw [e1, e2, H.1.2, H.2.2, xs_ix hi (by omega)]
  exact ⟨rfl, rfl⟩
theorem ys_2.nw : ys_2 (yz_nw (yz_nw y 140 r) 141 r) r := ⟨⟨rfl, rfl⟩, ⟨rfl, rfl⟩⟩
/-- the comparing after a turn -/
theorem lw_980L {B : xs_A} (G : ys_G B h y) (hn : B.nF = A.nF) (H : ys_2 y A.nF) (hD : ∀ g, g < A.nF → y.1 140 g = A.a 4 g ∧ y.1 141 g = A.a 5 g) {nx : Int32} (h5 : ∀ g, g < A.nF → B.a 5 g = A.a 5 g + if nI g = nx then 1 else 0) (h4 : ∀ g, g < A.nF → ∃ k, k ≤ 4 ∧ B.a 4 g = A.a 4 g + nI k ∧ (nI g ≠ nx → k = 0)) : ∀ (m i fu : Nat), i + m = A.nF → m < fu → ∃ fu', mL_law_b980 L xs K802 K22 a3 (nI A.nF) a14 a15 a16 a17 a18 a19 a20 a21 nx fu h y (nI i) = mL_law_b980 L xs K802 K22 a3 (nI A.nF) a14 a15 a16 a17 a18 a19 a20 a21 nx (fu' + 1) h y (nI A.nF) := by
  have h8 := G.2.1.1.1.2.1
  rw [hn] at h8
  intro m
  induction m with
  | zero =>
    intro i fu hi hf
    cases fu with
    | zero => omega
    | succ fu => exact ⟨fu, by rw [show i = A.nF by omega]⟩
  | succ m ih =>
    intro i fu hi hf
    cases fu with
    | zero => omega
    | succ fu =>
      have hg : i < A.nF := by omega
      obtain ⟨fu', e⟩ := ih (i + 1) fu (by omega) (by omega)
      refine ⟨fu', ?_⟩
      rw [← e]
      obtain ⟨k, k1, k2, k3⟩ := h4 i hg
      have g1 := H.g hg h8
      have ed : B.a 4 i - A.a 4 i = nI k := by rw [k2, Int32.add_comm, Int32.add_sub_cancel]
      rw [mL_law_b980, if_neg (nI_ge hg (by omega)), xs_c_stepsDone G.1 (by rw [hn]; exact hg), Option.bind_some]
      dsimp only
      rw [if_pos rfl, if_pos g1.1, xs_c_turnsOf G.1 (by rw [hn]; exact hg), Option.bind_some]
      dsimp only
      rw [if_pos rfl, if_pos g1.2, nI_clamp (by omega), (hD i hg).1, (hD i hg).2, ed, h5 i hg]
      have rest : ∀ v : Int32, (if nI i = nx then 1 else 0) = v → mL_law_b1024 L xs (mL_law_b980 L xs K802 K22 a3 (nI A.nF) a14 a15 a16 a17 a18 a19 a20 a21 nx fu) K802 K22 a3 (nI A.nF) a14 a15 a16 a17 a18 a19 a20 a21 nx (nI i) (nI k) h y v (A.a 5 i) (A.a 5 i + if nI i = nx then 1 else 0) = mL_law_b980 L xs K802 K22 a3 (nI A.nF) a14 a15 a16 a17 a18 a19 a20 a21 nx fu h y (nI (i + 1)) := fun v ev => by
        unfold mL_law_b1024 mL_law_b1053
        rw [ev, if_pos rfl, if_neg (nI_pos (by omega)), if_neg (show ¬ (4 : Int32) < nI k from fun z => by rw [xs_e4] at z; exact nI_nlt k1 (by omega) z), nI_1]
        by_cases hk : nI k ≤ 0
        · rw [if_pos hk]
        · rw [if_neg hk, if_pos (Classical.byContradiction (fun z => hk (by rw [k3 z]; decide)))]
      by_cases hx : nI i = nx
      · rw [if_pos hx]
        exact rest 1 (if_pos hx)
      · rw [if_neg hx]
        exact rest 0 (if_neg hx)
/-- the woken one so far -/
def xd_wk (A : xs_A) (i : Nat) (w : Int32) : Prop := (w = -1 ∧ ∀ g, g < i → ¬ xd_cd A g) ∨ ∃ g, g < i ∧ w = nI g ∧ xd_cd A g ∧ ∀ f, f < g → ¬ xd_cd A f
/-- the collecting before a turn -/
theorem lw_830L : ∀ (m i d fu : Nat) (w : Int32) (y : yz_Y), ys_G A h y → ys_2 y A.nF → (∀ g, g < i → y.1 140 g = A.a 4 g ∧ y.1 141 g = A.a 5 g) → i + m = A.nF → m < fu → d ≤ i → (d = 0 ↔ ∀ g, g < i → A.a 1 g ≠ 0) → xd_wk A i w → ∃ fu' y' d' w', mL_law_b830 L xs K802 K22 a3 (nI A.nF) a14 a15 a16 a17 a18 a19 a20 a21 fu h y (nI d) w (nI i) = mL_law_b830 L xs K802 K22 a3 (nI A.nF) a14 a15 a16 a17 a18 a19 a20 a21 (fu' + 1) h y' (nI d') w' (nI A.nF) ∧ ys_G A h y' ∧ ys_2 y' A.nF ∧ (∀ g, g < A.nF → y'.1 140 g = A.a 4 g ∧ y'.1 141 g = A.a 5 g) ∧ d' ≤ A.nF ∧ (d' = 0 ↔ ∀ g, g < A.nF → A.a 1 g ≠ 0) ∧ xd_wk A A.nF w' := by
  intro m
  induction m with
  | zero =>
    intro i d fu w y G H hD hi hf hd hz hw
    cases fu with
    | zero => omega
    | succ fu =>
      have e : i = A.nF := by omega
      subst e
      exact ⟨fu, y, d, w, rfl, G, H, hD, hd, hz, hw⟩
  | succ m ih =>
    intro i d fu w y G H hD hi hf hd hz hw
    cases fu with
    | zero => omega
    | succ fu =>
      have h8 := G.2.1.1.1.2.1
      have hg : i < A.nF := by omega
      have g1 := H.g hg h8
      have c1 : ∀ (z : yz_Y) k v, (yz_st z k i v).2 = z.2 := fun _ _ _ => rfl
      generalize hy1 : yz_st (yz_st y 140 i (A.a 4 i)) 141 i (A.a 5 i) = y1
      have G1 : ys_G A h y1 := by rw [← hy1]; exact (G.st (by omega)).st (by omega)
      have H1 : ys_2 y1 A.nF := by rw [← hy1]; exact H
      have D1 : ∀ g, g < i + 1 → y1.1 140 g = A.a 4 g ∧ y1.1 141 g = A.a 5 g := fun g hgi => by
        rw [← hy1]
        by_cases e : g = i
        · subst e
          exact ⟨(yz_st_at (by omega)).trans yz_st_v, yz_st_v⟩
        · obtain ⟨q1, q2⟩ := hD g (by omega)
          exact ⟨(yz_st_at (by omega)).trans ((yz_st_at (by omega)).trans q1), (yz_st_at (by omega)).trans ((yz_st_at (by omega)).trans q2)⟩
      obtain ⟨j, I, Wt, R, V⟩ := id G1
      have hs := I.1.1
      rw [mL_law_b830, if_neg (nI_ge hg (by omega)), xs_c_stepsDone G.1 hg, Option.bind_some]
      dsimp only
      rw [if_pos rfl, if_pos g1.1, nI_clamp (by omega), xo_let_eq, xs_c_turnsOf G.1 hg, Option.bind_some]
      dsimp only
      rw [if_pos rfl, if_pos (show (yz_is (yz_st y 140 i (A.a 4 i)) 141 2 && xo_ix (nI i) ((yz_st y 140 i (A.a 4 i)).2 141)) = true from g1.2), xo_let_eq, hy1, xs_c_stateOf G.1 hg, Option.bind_some]
      dsimp only
      rw [if_pos rfl]
      -- the count of the ready
      have step : ∀ d2, d2 ≤ i + 1 → (d2 = 0 ↔ ∀ g, g < i + 1 → A.a 1 g ≠ 0) → ∀ s : Int32, nI d + s = nI d2 → ∃ fu' y' d' w', mL_law_b875 L xs (mL_law_b830 L xs K802 K22 a3 (nI A.nF) a14 a15 a16 a17 a18 a19 a20 a21 fu) K802 K22 a3 (nI A.nF) a14 a15 a16 a17 a18 a19 a20 a21 w (nI i) h y1 s (nI d) = mL_law_b830 L xs K802 K22 a3 (nI A.nF) a14 a15 a16 a17 a18 a19 a20 a21 (fu' + 1) h y' (nI d') w' (nI A.nF) ∧ ys_G A h y' ∧ ys_2 y' A.nF ∧ (∀ g, g < A.nF → y'.1 140 g = A.a 4 g ∧ y'.1 141 g = A.a 5 g) ∧ d' ≤ A.nF ∧ (d' = 0 ↔ ∀ g, g < A.nF → A.a 1 g ≠ 0) ∧ xd_wk A A.nF w' := fun d2 hd2 hz2 s es => by
        have nxt : ∀ w2, xd_wk A (i + 1) w2 → _ := fun w2 hw2 => ih (i + 1) d2 fu w2 y1 G1 H1 D1 (by omega) (by omega) hd2 hz2 hw2
        unfold mL_law_b875 mL_law_b914
        rw [es, nI_1]
        rcases hw with ⟨ew, hno⟩ | ⟨g, hgi, ew, hc, hfst⟩
        · rw [if_neg (by rw [ew]; decide), xs_c_stateOf G.1 hg, Option.bind_some]
          dsimp only
          rw [if_pos rfl]
          have no : ¬ xd_cd A i → xd_wk A (i + 1) w := fun hn => Or.inl ⟨ew, fun g hg2 => by
            by_cases e : g = i
            · rw [e]; exact hn
            · exact hno g (by omega)⟩
          by_cases h3 : A.a 1 i = 3
          · rw [if_pos h3, if_pos (R.ixF hs hg), nI_clamp (by omega), if_pos (R.isF hs hg), xs_cTime G.1, Option.bind_some, (R.gF hg).2.2.2.2.2]
            dsimp only
            by_cases h6 : A.a 6 i = A.a 9 0
            · rw [if_pos h6]
              exact nxt (nI i) (Or.inr ⟨i, by omega, rfl, ⟨h3, h6⟩, fun f hf => hno f hf⟩)
            · rw [if_neg h6]
              exact nxt w (no (fun z => h6 z.2))
          · rw [if_neg h3]
            exact nxt w (no (fun z => h3 z.1))
        · rw [if_pos (show (0 : Int32) ≤ w by rw [ew]; exact Int32.not_lt.mp (nI_pos (by omega)))]
          exact nxt w (Or.inr ⟨g, by omega, ew, hc, hfst⟩)
      by_cases h0 : A.a 1 i = 0
      · rw [if_pos h0]
        exact step (d + 1) (by omega) ⟨fun z => absurd z (by omega), fun z => absurd h0 (z i (by omega))⟩ 1 (nI_1 d)
      · rw [if_neg h0]
        refine step d (by omega) ?_ 0 (Int32.add_zero _)
        rw [hz]
        exact ⟨fun z g hg2 => by
          by_cases e : g = i
          · rw [e]; exact h0
          · exact z g (by omega), fun z g hg2 => z g (by omega)⟩
end LT
section LU
variable {y y' : yz_Y} {A A' P : xs_A} {Wt : List Int32} {r : Nat} {h h' : xw_M}
variable {L : Nat} {xs : Nat → Int32} {K802 : xw_M → yz_Y → Int32 → Int32 → Int32 → Option (xw_M × yz_Y × Unit)} {K22 : xw_M → yz_Y → Int32 → Option (xw_M × yz_Y × Unit)} {a3 a14 a15 a16 a17 a18 a19 a20 a21 : Int32}
theorem xd_nI0 {n : Nat} (hn : n < 2 ^ 31) : nI n = 0 ↔ n = 0 := ⟨fun z => (nI_eq (b := 0) hn (by omega)).mp z, fun z => by rw [z]; rfl⟩
/-- a turn of both -/
theorem lw_934 (G : ys_G A h y) (H : ys_2 y A.nF) (hD : ∀ g, g < A.nF → y.1 140 g = A.a 4 g ∧ y.1 141 g = A.a 5 g) : ∃ fu h1 y1, mL_law_b934 L xs K802 K22 a3 (nI A.nF) a14 a15 a16 a17 a18 a19 a20 a21 h y (xd_hd A) = mL_law_b980 L xs K802 K22 a3 (nI A.nF) a14 a15 a16 a17 a18 a19 a20 a21 (xd_hd A) (fu + 1) h1 y1 (nI A.nF) ∧ ys_G A.turn h1 y1 := by
  obtain ⟨j, I, Wt, R, V⟩ := id G
  have h8 := I.1.1.2.1
  obtain ⟨t1, t2, t3⟩ := xd_turn I.1
  obtain ⟨h1, c1, c2, c3⟩ := xs_c_run j I.1 I.2.1 (t := 1) (by omega) (by omega)
  obtain ⟨y1, Wt1, q1, q2, q3, q4⟩ := ys_pass R V I.1 I.2.2.1
  have G1 : ys_G A.turn h1 y1 := ⟨c2, I.turn, Wt1, q2, q3⟩
  have hn : A.turn.nF = A.nF := I.1.turn.2.2.1
  have H1 : ys_2 y1 A.nF := ⟨⟨(q4 150 (by omega)).2.trans H.1.1, (q4 140 (by omega)).2.trans H.1.2⟩, ⟨(q4 151 (by omega)).2.trans H.2.1, (q4 141 (by omega)).2.trans H.2.2⟩⟩
  have D1 : ∀ g, g < A.nF → y1.1 140 g = A.a 4 g ∧ y1.1 141 g = A.a 5 g := fun g hg => by
    rw [(q4 140 (by omega)).1, (q4 141 (by omega)).1]; exact hD g hg
  obtain ⟨fu, e⟩ := lw_980L (L := L) (xs := xs) (K802 := K802) (K22 := K22) (a3 := a3) (a14 := a14) (a15 := a15) (a16 := a16) (a17 := a17) (a18 := a18) (a19 := a19) (a20 := a20) (a21 := a21) G1 hn H1 D1 t2 t3 A.nF 0 xo_n (by omega) (by show A.nF < 300; omega)
  refine ⟨fu, h1, y1, ?_, G1⟩
  have ei : (A.turns 1).a 10 0 - A.a 10 0 = xd_id A := by
    show A.turn.a 10 0 - A.a 10 0 = _
    rw [xd_id_turn I.1, Int32.add_comm, Int32.add_sub_cancel]
  rw [ei] at c1
  unfold mL_law_b934
  rw [show (1 : Int32) = nI 1 from rfl, c1, Option.bind_some]
  dsimp only
  rw [if_pos rfl]
  have rest : ∀ s, xd_id A = s → mL_law_b955 L xs K802 K22 a3 (nI A.nF) a14 a15 a16 a17 a18 a19 a20 a21 (xd_hd A) (xd_id A) h1 y s (xd_id A) = mL_law_b980 L xs K802 K22 a3 (nI A.nF) a14 a15 a16 a17 a18 a19 a20 a21 (xd_hd A) (fu + 1) h1 y1 (nI A.nF) := fun s es => by
    unfold mL_law_b955 mL_law_b972
    rw [if_pos es, q1, Option.bind_some]
    dsimp only
    have h01 : xd_id A = 0 ∨ xd_id A = 1 := t1.elim (fun z => Or.inr z.2) (fun ⟨_, _, _, z⟩ => Or.inl z)
    rcases h01 with z | z
    · rw [if_pos z, if_pos z]
      exact e
    · rw [if_neg (by rw [z]; decide), if_pos z]
      exact e
  rcases t1 with ⟨z1, z2⟩ | ⟨f, hf, z1, z2⟩
  · rw [if_neg (show ¬ (0 : Int32) ≤ xd_hd A by rw [z1]; decide)]
    exact rest 1 z2
  · rw [if_pos (show (0 : Int32) ≤ xd_hd A by rw [z1]; exact Int32.not_lt.mp (nI_pos (by omega)))]
    exact rest 0 z2
theorem lw_turn (G : ys_G A h y) : ∃ fu h1 y1, mL_law_b830 L xs K802 K22 a3 (nI A.nF) a14 a15 a16 a17 a18 a19 a20 a21 xo_n h (yz_nw (yz_nw y 140 A.nF) 141 A.nF) 0 (-1) 0 = mL_law_b980 L xs K802 K22 a3 (nI A.nF) a14 a15 a16 a17 a18 a19 a20 a21 (xd_hd A) (fu + 1) h1 y1 (nI A.nF) ∧ ys_G A.turn h1 y1 := by
  have h8 := G.2.1.1.1.2.1
  have w := G.2.1.1
  obtain ⟨fu, y1, d, w1, e, G1, H1, D1, hd, hz, hw⟩ := lw_830L (A := A) (h := h) (L := L) (xs := xs) (K802 := K802) (K22 := K22) (a3 := a3) (a14 := a14) (a15 := a15) (a16 := a16) (a17 := a17) (a18 := a18) (a19 := a19) (a20 := a20) (a21 := a21) A.nF 0 0 xo_n (-1) (yz_nw (yz_nw y 140 A.nF) 141 A.nF) ((G.nw (by omega)).nw (by omega)) ys_2.nw (fun g hg => absurd hg (by omega)) (by omega) (by show A.nF < 300; omega) (by omega) ⟨fun _ g hg => absurd hg (by omega), fun _ => rfl⟩ (Or.inl ⟨rfl, fun g hg => absurd hg (by omega)⟩)
  have e : mL_law_b830 L xs K802 K22 a3 (nI A.nF) a14 a15 a16 a17 a18 a19 a20 a21 xo_n h (yz_nw (yz_nw y 140 A.nF) 141 A.nF) 0 (-1) 0 = _ := e
  rw [e, mL_law_b830, if_pos (Int32.le_refl _)]
  by_cases h0 : d = 0
  · have hl := (xs_sp.line w).mpr (hz.mp h0)
    have ew : w1 = xd_hd A := by
      rcases hw with ⟨z1, z2⟩ | ⟨g, hg, z1, z2, z3⟩
      · rw [z1, xd_hd_none hl z2]
      · rw [z1, xd_hd_wake hl hg z2 z3]
    rw [if_pos (by rw [h0]; rfl), ew]
    exact lw_934 G1 H1 D1
  · have hl : A.ls 0 ≠ [] := fun z => h0 (hz.mpr ((xs_sp.line w).mp z))
    obtain ⟨x, l, el⟩ : ∃ x l, A.ls 0 = x :: l := by
      cases hh : A.ls 0 with
      | nil => exact absurd hh hl
      | cons x l => exact ⟨x, l, rfl⟩
    have en : xs_nx A = xd_hd A := by
      rw [xd_hd_line el]
      unfold xs_nx
      rw [el]
    rw [if_neg (fun z => h0 ((xd_nI0 (by omega)).mp z)), xs_cNext G1.1, Option.bind_some, en]
    exact lw_934 G1 H1 D1
/-- the stuck, as told -/
def xd_st (A : xs_A) (i : Nat) (a18 a20 : Int32) : Prop := (a20 = 1 ∧ xs_stk A ∧ ∃ k, k ≤ i ∧ a18 = nI k) ∨ (a20 = 0 ∧ ¬ xs_stk A ∧ xs_Ud xs_stk (200 - i) i A a18)
theorem xd_stv1 (h : xs_stk A) : xs_stv A = 1 := (xs_stv_eq (Or.inl ⟨rfl, h⟩)).symm
theorem xd_stv0 (h : ¬ xs_stk A) : xs_stv A = 0 := (xs_stv_eq (Or.inr ⟨rfl, h⟩)).symm
theorem xd_stk_turn (h : xs_stk A) (w : xs_W A 99) : xs_stk A.turn := by
  obtain ⟨h1, h2, h3⟩ := h.1.turn w
  refine ⟨h1, fun z => h.2 (fun f hf => ?_)⟩
  rw [← h2 f]
  exact z f (by rw [h3]; exact hf)
theorem lw_1105 (w : xs_W A 99) (G : ys_G A.turn h y) {i : Nat} (hi : i < 200) (hS : xd_st A i a18 a20) : ∃ b, mL_law_b1105 L xs K802 K22 a3 (nI A.nF) a14 a15 a16 a17 a18 a19 a20 (nI (i + 1)) h y = K802 h y a19 b (nI (i + 2)) ∧ xd_st A.turn (i + 1) a18 b := by
  have hq := xs_cIsStuck G.1
  unfold mL_law_b1105 mL_law_b1119 mL_law_b1146 mL_law_b1147
  rcases hS with ⟨e, hs, k, hk, e18⟩ | ⟨e, hs, hu⟩
  · have hs2 := xd_stk_turn hs w
    have e1 := xd_stv1 hs2
    refine ⟨1, ?_, Or.inl ⟨rfl, hs2, k, by omega, e18⟩⟩
    rw [e, if_neg (by decide), hq, Option.bind_some]
    dsimp only
    rw [e1, if_neg (by decide), hq, Option.bind_some]
    dsimp only
    rw [e18, if_neg (nI_pos (by omega)), if_neg (nI_nlt (by omega) (by omega)), e1, if_pos (by decide), nI_1]
    rfl
  · have hu2 : xs_Ud xs_stk (200 - (i + 1)) (i + 1) A.turn a18 := xd_Ud_next (by rw [show 200 - i = 200 - (i + 1) + 1 by omega] at hu; exact hu) hs
    obtain ⟨r1, r2⟩ := xd_Ud_rg _ _ _ hu2
    rw [e, if_pos rfl, hq, Option.bind_some]
    dsimp only
    by_cases hs2 : xs_stk A.turn
    · have e1 := xd_stv1 hs2
      refine ⟨1, ?_, Or.inl ⟨rfl, hs2, i + 1, by omega, r1 hs2⟩⟩
      rw [r1 hs2, e1, if_neg (nI_pos (by omega)), if_neg (nI_nlt (by omega) (by omega)), if_pos (by decide), nI_1]
      rfl
    · have e1 := xd_stv0 hs2
      refine ⟨0, ?_, Or.inr ⟨rfl, hs2, hu2⟩⟩
      rw [e1, nI_1]
      rcases r2 hs2 with z | ⟨k, k1, k2, z⟩
      · rw [if_pos (by rw [z]; decide), if_pos (by decide)]
        rfl
      · rw [z, if_neg (nI_pos (by omega)), if_pos (nI_lt (by omega) (by omega)), if_pos (by decide)]
        rfl
/-- the end of the law's time -/
def ys_Q (o : Option (xw_M × yz_Y × Unit)) : Prop := ∃ A' h' y', o = some (h', y', ()) ∧ ys_G A' h' y'
/-- the asked fiber, as told; m turns are left -/
def xd_on (A : xs_A) (i m : Nat) (a15 a16 a17 a19 : Int32) : Prop := a15 = -1 ∨ ∃ f, f < A.nF ∧ a15 = nI f ∧ (a19 = 1 ∨ (a19 = 0 ∧ A.a 1 f ≠ 5 ∧ xs_Ud (fun P => P.a 1 f = 5) (200 - i) i A a16)) ∧ a17 = (A.turns m).a 3 f
theorem lw_802 {T : Nat} (hT : T ≤ 14) (hK : ∀ A h y, ys_G A h y → ys_Q (K22 h y (a3 + 1))) : ∀ (m i fu : Nat) (A : xs_A) (h : xw_M) (y : yz_Y) (a19 a20 : Int32), ys_G A h y → i + m = T → m < fu → xd_on A i m a15 a16 a17 a19 → xd_st A i a18 a20 → ys_Q (mL_law_b802 L xs K22 a3 (nI A.nF) (nI T) a15 a16 a17 a18 fu h y a19 a20 (nI (i + 1))) := by
  intro m
  induction m with
  | zero =>
    intro i fu A h y a19 a20 G hi hf hO hS
    cases fu with
    | zero => omega
    | succ fu =>
      have h8 := G.2.1.1.1.2.1
      unfold mL_law_b802 mL_law_b1176
      rw [if_pos (nI_lt (by omega) (by omega))]
      rcases hO with e | ⟨f, hf, e, _, e17⟩
      · rw [if_pos (by rw [e]; decide)]
        exact hK A h y G
      · rw [e, if_neg (nI_pos (by omega)), xs_c_sumOf G.1 hf, Option.bind_some]
        dsimp only
        rw [if_pos rfl, if_pos (by rw [e17]; rfl)]
        exact hK A h y G
  | succ m ih =>
    intro i fu A h y a19 a20 G hi hf hO hS
    cases fu with
    | zero => omega
    | succ fu =>
      have h8 := G.2.1.1.1.2.1
      have w := G.2.1.1
      have hn : A.turn.nF = A.nF := w.turn.2.2.1
      rw [mL_law_b802, if_neg (nI_nlt (by omega) (by omega)), if_pos (xs_ix (i := A.nF) (by omega) (by omega)), xo_let_eq, if_pos (xs_ix (i := A.nF) (by omega) (by omega)), xo_let_eq, nI_clamp (by omega)]
      obtain ⟨fu2, h1, y1, e, G1⟩ := lw_turn (L := L) (xs := xs) (K802 := mL_law_b802 L xs K22 a3 (nI A.nF) (nI T) a15 a16 a17 a18 fu) (K22 := K22) (a3 := a3) (a14 := nI T) (a15 := a15) (a16 := a16) (a17 := a17) (a18 := a18) (a19 := a19) (a20 := a20) (a21 := nI (i + 1)) G
      rw [e, mL_law_b980, if_pos (Int32.le_refl _)]
      have goon : ∀ a19', xd_on A.turn (i + 1) m a15 a16 a17 a19' → ys_Q (mL_law_b1105 L xs (mL_law_b802 L xs K22 a3 (nI A.nF) (nI T) a15 a16 a17 a18 fu) K22 a3 (nI A.nF) (nI T) a15 a16 a17 a18 a19' a20 (nI (i + 1)) h1 y1) := fun a19' hO' => by
        obtain ⟨b, e2, hS2⟩ := lw_1105 (L := L) (xs := xs) (K802 := mL_law_b802 L xs K22 a3 (nI A.nF) (nI T) a15 a16 a17 a18 fu) (K22 := K22) (a3 := a3) (a14 := nI T) (a15 := a15) (a16 := a16) (a17 := a17) (a18 := a18) (a19 := a19') (a20 := a20) w G1 (i := i) (by omega) hS
        rw [e2]
        have := ih (i + 1) fu A.turn h1 y1 a19' b G1 (by omega) (by omega) hO' hS2
        rw [hn] at this
        exact this
      rcases hO with e15 | ⟨f, hfF, e15, hU, e17⟩
      · rw [if_pos (by rw [e15]; decide)]
        exact goon a19 (Or.inl e15)
      · rw [if_neg (by rw [e15]; exact nI_pos (by omega))]
        have mk : ∀ a19', (a19' = 1 ∨ (a19' = 0 ∧ A.turn.a 1 f ≠ 5 ∧ xs_Ud (fun P => P.a 1 f = 5) (200 - (i + 1)) (i + 1) A.turn a16)) → xd_on A.turn (i + 1) m a15 a16 a17 a19' := fun a19' h => Or.inr ⟨f, by rw [hn]; exact hfF, e15, h, e17⟩
        rcases hU with e19 | ⟨e19, h5, hu⟩
        · rw [if_neg (by rw [e19]; decide)]
          exact goon a19 (mk a19 (Or.inl e19))
        · have hu2 : xs_Ud (fun P => P.a 1 f = 5) (200 - (i + 1)) (i + 1) A.turn a16 := xd_Ud_next (by rw [show 200 - i = 200 - (i + 1) + 1 by omega] at hu; exact hu) h5
          obtain ⟨r1, r2⟩ := xd_Ud_rg _ _ _ hu2
          have gA := goon
          rw [if_pos e19]
          have eS : mX5_stateOf 350 a15 h1 = some (h1, A.turn.a 1 f, 0) := by
            rw [e15]; exact xs_c_stateOf G1.1 (by rw [hn]; exact hfF)
          rw [eS, Option.bind_some]
          dsimp only
          rw [if_pos rfl]
          unfold mL_law_b1084 mL_law_b1100
          by_cases hp : A.turn.a 1 f = 5
          · rw [if_pos hp, if_pos (r1 hp), if_pos rfl]
            exact goon 1 (mk 1 (Or.inl rfl))
          · have hne : ¬ a16 = nI (i + 1) := by
              rcases r2 hp with z | ⟨k, k1, k2, z⟩
              · rw [z]
                intro w
                have := congrArg Int32.toInt w
                rw [nI_toInt (by omega), show (-1 : Int32).toInt = -1 from rfl] at this
                omega
              · rw [z]
                intro w
                have := (nI_eq (by omega) (by omega)).mp w
                omega
            rw [if_neg hp, if_neg hne, if_pos rfl]
            exact goon 0 (mk 0 (Or.inr ⟨rfl, hp, hu2⟩))
end LU
