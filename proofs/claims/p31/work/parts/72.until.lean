/-! many turns; a clock that has stopped; counts -/
def xs_A.turns : Nat → xs_A → xs_A
  | 0, A => A
  | n + 1, A => xs_A.turns n A.turn
def xs_sp (A : xs_A) : Prop := ∀ f, f < A.nF → A.a 1 f ≠ 0 ∧ A.a 1 f ≠ 3
def xs_ad (A : xs_A) : Prop := ∀ f, f < A.nF → A.a 1 f = 5
def xs_no (A : xs_A) (s : Int32) : Nat → Nat → Nat
  | 0, _ => 0
  | m + 1, i => (if A.a 1 i = s then 1 else 0) + xs_no A s m (i + 1)
/-- in how many turns it is so; -1: not in time -/
def xs_Ud (p : xs_A → Prop) : Nat → Nat → xs_A → Int32 → Prop
  | 0, i, A, v => (p A ∧ v = nI i) ∨ (¬ p A ∧ v = -1)
  | m + 1, i, A, v => (p A ∧ v = nI i) ∨ (¬ p A ∧ xs_Ud p m (i + 1) A.turn v)
/-- all are done in so many turns -/
def xs_Wd : Nat → xs_A → Prop
  | 0, A => xs_ad A
  | m + 1, A => xs_ad A ∨ xs_Wd m A.turn
/-- the least number of places from p on, of m -/
def xs_Pw (A : xs_A) (c : Nat) : Nat → Nat → Int32 → Prop
  | 0, _, v => v = -1
  | m + 1, p, v => (xs_Wd 100 (A.set 8 c (nI p)) ∧ v = nI p) ∨ (¬ xs_Wd 100 (A.set 8 c (nI p)) ∧ xs_Pw A c m (p + 1) v)
section UN
variable {A : xs_A}
theorem xs_Ud_one {p : xs_A → Prop} {v v' : Int32} : ∀ (m i : Nat) (A : xs_A), xs_Ud p m i A v → xs_Ud p m i A v' → v = v' := by
  intro m
  induction m with
  | zero =>
    intro i A h1 h2
    rcases h1 with ⟨a, b⟩ | ⟨a, b⟩ <;> rcases h2 with ⟨c, d⟩ | ⟨c, d⟩
    · rw [b, d]
    · exact absurd a c
    · exact absurd c a
    · rw [b, d]
  | succ m ih =>
    intro i A h1 h2
    rcases h1 with ⟨a, b⟩ | ⟨a, b⟩ <;> rcases h2 with ⟨c, d⟩ | ⟨c, d⟩
    · rw [b, d]
    · exact absurd a c
    · exact absurd c a
    · exact ih (i + 1) A.turn b d
theorem xs_Pw_one {c : Nat} {v v' : Int32} : ∀ (m p : Nat), xs_Pw A c m p v → xs_Pw A c m p v' → v = v' := by
  intro m
  induction m with
  | zero => exact fun p h1 h2 => Eq.trans h1 (Eq.symm h2)
  | succ m ih =>
    intro p h1 h2
    rcases h1 with ⟨a, b⟩ | ⟨a, b⟩ <;> rcases h2 with ⟨c, d⟩ | ⟨c, d⟩
    · rw [b, d]
    · exact absurd a c
    · exact absurd c a
    · exact ih (p + 1) b d
theorem xs_W.turns : ∀ (n : Nat) (A : xs_A), xs_W A 99 → xs_W (A.turns n) 99 ∧ xs_fr A (A.turns n) := by
  intro n
  induction n with
  | zero => exact fun A w => ⟨w, xs_fr.rf⟩
  | succ n ih =>
    intro A w
    obtain ⟨w1, f1⟩ := ih A.turn w.turn.1
    exact ⟨w1, (xs_fr.turn w).tr f1⟩
theorem xs_rise_sp : ∀ (m i : Nat) (A : xs_A), xs_sp A → i + m ≤ A.nF → xs_A.rise m i A = A := by
  intro m
  induction m with
  | zero => exact fun i A _ _ => rfl
  | succ m ih =>
    intro i A h hi
    unfold xs_A.rise
    rw [if_neg (h i (by omega)).2]
    exact ih (i + 1) A h (by omega)
theorem xs_sp.line (w : xs_W A 99) : (A.ls 0 = [] ↔ ∀ f, f < A.nF → A.a 1 f ≠ 0) := by
  have h8 := w.1.2.1
  constructor
  · intro he f hf h0
    have := ((w.2.2.2.2.2 0 (Or.inl rfl)).2 f hf).mpr (by unfold xs_A.at; rw [if_pos rfl]; exact ⟨h0, by omega⟩)
    rw [he] at this
    exact absurd this List.not_mem_nil
  · intro h
    cases he : A.ls 0 with
    | nil => rfl
    | cons x l =>
      obtain ⟨f, hf, hx, h0, hw⟩ := w.work he
      exact absurd h0 (h f hf)
theorem xs_sp.next (h : xs_sp A) (w : xs_W A 99) : A.turn = (A.set 10 0 (A.a 10 0 + 1)).tick := by
  unfold xs_A.turn
  rw [xs_rise_sp A.nF 0 A h (by omega), (xs_sp.line w).mpr (fun f hf => (h f hf).1)]
theorem xs_sp.turn (h : xs_sp A) (w : xs_W A 99) : xs_sp A.turn ∧ (∀ f, A.turn.a 1 f = A.a 1 f) ∧ A.turn.nF = A.nF := by
  rw [h.next w]
  have e : ∀ f, ((A.set 10 0 (A.a 10 0 + 1)).tick).a 1 f = A.a 1 f := fun f => (xs_set_ne (t := 9) (t' := 1) (i := 0) (i' := f) (fun z => absurd z.1 (by decide))).trans (xs_set_ne (t := 10) (t' := 1) (fun z => absurd z.1 (by decide)))
  exact ⟨fun f hf => by rw [e]; exact h f hf, e, rfl⟩
theorem xs_Ud_stop {p : xs_A → Prop} (hp : ∀ A A' : xs_A, A'.nF = A.nF → (∀ f, A'.a 1 f = A.a 1 f) → p A' → p A) : ∀ (m i : Nat) (A : xs_A), xs_W A 99 → xs_sp A → ¬ p A → xs_Ud p m i A (-1) := by
  intro m
  induction m with
  | zero => exact fun i A w h hn => Or.inr ⟨hn, rfl⟩
  | succ m ih =>
    intro i A w h hn
    obtain ⟨s1, s2, s3⟩ := h.turn w
    exact Or.inr ⟨hn, ih (i + 1) A.turn w.turn.1 s1 (fun z => hn (hp A A.turn s3 s2 z))⟩
theorem xs_Wd_stop : ∀ (m : Nat) (A : xs_A), xs_W A 99 → xs_sp A → ¬ xs_ad A → ¬ xs_Wd m A := by
  intro m
  induction m with
  | zero => exact fun A w h hn => hn
  | succ m ih =>
    intro A w h hn z
    obtain ⟨s1, s2, s3⟩ := h.turn w
    rcases z with z | z
    · exact hn z
    · refine ih A.turn w.turn.1 s1 (fun q => hn (fun f hf => ?_)) z
      rw [← s2 f]
      exact q f (by rw [s3]; exact hf)
theorem xs_Wd_ad : ∀ (m : Nat) (A : xs_A), xs_ad A → xs_Wd m A := by
  intro m A h
  cases m with
  | zero => exact h
  | succ m => exact Or.inl h
theorem xs_ad.sp (h : xs_ad A) : xs_sp A := fun f hf => by rw [h f hf]; decide
theorem xs_no_le {s : Int32} : ∀ (m i : Nat), xs_no A s m i ≤ m := by
  intro m
  induction m with
  | zero => exact fun i => Nat.le_refl _
  | succ m ih =>
    intro i
    unfold xs_no
    have := ih (i + 1)
    split <;> omega
theorem xs_no_all {s : Int32} : ∀ (m i : Nat), (xs_no A s m i = m ↔ ∀ f, i ≤ f → f < i + m → A.a 1 f = s) := by
  intro m
  induction m with
  | zero => exact fun i => ⟨fun _ f h1 h2 => absurd h2 (by omega), fun _ => rfl⟩
  | succ m ih =>
    intro i
    unfold xs_no
    have h1 := ih (i + 1)
    have h2 := xs_no_le (A := A) (s := s) m (i + 1)
    by_cases e : A.a 1 i = s
    · rw [if_pos e]
      constructor
      · intro z f hf1 hf2
        by_cases q : f = i
        · rw [q]; exact e
        · exact h1.mp (by omega) f (by omega) (by omega)
      · intro z
        have := h1.mpr (fun f hf1 hf2 => z f (by omega) (by omega))
        omega
    · rw [if_neg e]
      constructor
      · intro z
        omega
      · intro z
        exact absurd (z i (by omega) (by omega)) e
theorem xs_no_0 {s : Int32} : ∀ (m i : Nat), (xs_no A s m i = 0 ↔ ∀ f, i ≤ f → f < i + m → A.a 1 f ≠ s) := by
  intro m
  induction m with
  | zero => exact fun i => ⟨fun _ f h1 h2 => absurd h2 (by omega), fun _ => rfl⟩
  | succ m ih =>
    intro i
    unfold xs_no
    have h1 := ih (i + 1)
    by_cases e : A.a 1 i = s
    · rw [if_pos e]
      constructor
      · intro z
        omega
      · intro z
        exact absurd e (z i (by omega) (by omega))
    · rw [if_neg e]
      constructor
      · intro z f hf1 hf2
        by_cases q : f = i
        · rw [q]; exact e
        · exact h1.mp (by omega) f (by omega) (by omega)
      · intro z
        have := h1.mpr (fun f hf1 hf2 => z f (by omega) (by omega))
        omega
theorem xs_no_ad (A : xs_A) : (xs_no A 5 A.nF 0 = A.nF ↔ xs_ad A) := by
  rw [xs_no_all]
  exact ⟨fun h f hf => h f (by omega) (by omega), fun h f h1 h2 => h f (by omega)⟩
end UN
/-! the class: has stopped, counts -/
section UC
variable {B : Nat} {h : xw_M} {A : xs_A}
theorem xs_cStopL (C : xs_CR B h A) : ∀ (m i n : Nat), i + m = A.nF → m < n → ∃ x, mX1_hasStopped_b2 B n h (nI i) = some (h, x) ∧ ((x = 1 ∧ ∀ f, i ≤ f → f < A.nF → A.a 1 f ≠ 0 ∧ A.a 1 f ≠ 3) ∨ (x = 0 ∧ ¬ ∀ f, i ≤ f → f < A.nF → A.a 1 f ≠ 0 ∧ A.a 1 f ≠ 3)) := by
  have h8 := C.bd.2
  intro m
  induction m with
  | zero =>
    intro i n hi hn
    cases n with
    | zero => omega
    | succ n =>
      unfold mX1_hasStopped_b2
      rw [if_pos (by rw [C.c6]; exact nI_le (by omega) (by omega))]
      exact ⟨1, rfl, Or.inl ⟨rfl, fun f h1 h2 => absurd h2 (by omega)⟩⟩
  | succ m ih =>
    intro i n hi hn
    cases n with
    | zero => omega
    | succ n =>
      have hi2 : i < A.nF := by omega
      have g1 := C.getF (t := 1) (by omega) hi2
      unfold mX1_hasStopped_b2
      rw [if_neg (by rw [C.c6]; exact nI_ge hi2 (by omega)), xs_fiberAt (by omega), Option.bind_some]
      dsimp only
      by_cases e0 : A.a 1 i = 0
      · rw [if_pos (g1.trans e0)]
        exact ⟨0, rfl, Or.inr ⟨rfl, fun z => (z i (Nat.le_refl _) hi2).1 e0⟩⟩
      · rw [if_neg (fun z => e0 (g1.symm.trans z))]
        by_cases e3 : A.a 1 i = 3
        · rw [if_pos (g1.trans e3)]
          exact ⟨0, rfl, Or.inr ⟨rfl, fun z => (z i (Nat.le_refl _) hi2).2 e3⟩⟩
        · rw [if_neg (fun z => e3 (g1.symm.trans z)), nI_1]
          obtain ⟨x, ex, hx⟩ := ih (i + 1) n (by omega) (by omega)
          refine ⟨x, ex, ?_⟩
          rcases hx with ⟨x1, x2⟩ | ⟨x1, x2⟩
          · refine Or.inl ⟨x1, fun f hf1 hf2 => ?_⟩
            by_cases q : f = i
            · rw [q]; exact ⟨e0, e3⟩
            · exact x2 f (by omega) hf2
          · exact Or.inr ⟨x1, fun z => x2 (fun f hf1 hf2 => z f (by omega) hf2)⟩
theorem xs_cStop (C : xs_CR B h A) : ∃ x, mX1_hasStopped B h = some (h, x) ∧ ((x = 1 ∧ xs_sp A) ∨ (x = 0 ∧ ¬ xs_sp A)) := by
  have h8 := C.bd.2
  obtain ⟨x, ex, hx⟩ := xs_cStopL C A.nF 0 xo_n (by omega) (by show A.nF < 300; omega)
  refine ⟨x, ex, ?_⟩
  rcases hx with ⟨x1, x2⟩ | ⟨x1, x2⟩
  · exact Or.inl ⟨x1, fun f hf => x2 f (Nat.zero_le _) hf⟩
  · exact Or.inr ⟨x1, fun z => x2 (fun f _ hf => z f hf)⟩
theorem xs_cCountL (C : xs_CR B h A) : ∀ (m i n d : Nat), i + m = A.nF → m < n → mX1_countDone_b4 B n h (nI d) (nI i) = some (h, nI (d + xs_no A 5 m i)) := by
  have h8 := C.bd.2
  intro m
  induction m with
  | zero =>
    intro i n d hi hn
    cases n with
    | zero => omega
    | succ n =>
      unfold mX1_countDone_b4 xs_no
      rw [if_pos (by rw [C.c6]; exact nI_le (by omega) (by omega)), Nat.add_zero]
  | succ m ih =>
    intro i n d hi hn
    cases n with
    | zero => omega
    | succ n =>
      have hi2 : i < A.nF := by omega
      have g1 := C.getF (t := 1) (by omega) hi2
      unfold mX1_countDone_b4 xs_no
      rw [if_neg (by rw [C.c6]; exact nI_ge hi2 (by omega)), xs_fiberAt (by omega), Option.bind_some]
      dsimp only
      by_cases e : A.a 1 i = 5
      · rw [if_pos (g1.trans e), if_pos e]
        unfold mX1_countDone_b27
        rw [nI_1, nI_1, ih (i + 1) n (d + 1) (by omega) (by omega), Nat.add_assoc]
      · rw [if_neg (fun z => e (g1.symm.trans z)), if_neg e]
        unfold mX1_countDone_b27
        rw [nI_1, ih (i + 1) n d (by omega) (by omega), Nat.zero_add]
theorem xs_cCount (C : xs_CR B h A) : mX1_countDone B h = some (h, nI (xs_no A 5 A.nF 0)) := by
  have h8 := C.bd.2
  have := xs_cCountL C A.nF 0 xo_n 0 (by omega) (by show A.nF < 300; omega)
  rw [Nat.zero_add] at this
  exact this
theorem xs_cAll (C : xs_CR B h A) : ∃ x, mX1_allAreDone B h = some (h, x) ∧ ((x = 1 ∧ xs_ad A) ∨ (x = 0 ∧ ¬ xs_ad A)) := by
  have h8 := C.bd.2
  have hl := xs_no_le (A := A) (s := 5) A.nF 0
  unfold mX1_allAreDone
  rw [xs_cCount C, Option.bind_some]
  dsimp only
  by_cases e : xs_ad A
  · rw [if_pos (by rw [(xs_no_ad A).mpr e]; exact C.c6.symm)]
    exact ⟨1, rfl, Or.inl ⟨rfl, e⟩⟩
  · rw [if_neg (fun z => e ((xs_no_ad A).mp ((nI_eq (by omega) (by omega)).mp (z.trans C.c6))))]
    exact ⟨0, rfl, Or.inr ⟨rfl, e⟩⟩
end UC
