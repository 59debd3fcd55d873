/-! what is asked, without memory -/
noncomputable def xs_stv (A : xs_A) : Int32 := @ite Int32 (xs_stk A) (Classical.propDecidable _) 1 0
noncomputable def xs_udv (p : xs_A → Prop) (A : xs_A) : Int32 := Classical.epsilon (fun v => xs_Ud p 200 0 A v)
noncomputable def xs_pwv (A : xs_A) (c : Nat) : Int32 := Classical.epsilon (fun v => xs_Pw A c (9 - (A.a 8 c).toNatClampNeg) (A.a 8 c).toNatClampNeg v)
def xs_nx (A : xs_A) : Int32 := match A.ls 0 with
  | [] => -1
  | x :: _ => x
def xs_cq (p : Nat → Bool) : Nat → Nat → Nat
  | 0, _ => 0
  | m + 1, i => (if p i = true then 1 else 0) + xs_cq p m (i + 1)
def xs_sm (A : xs_A) : Nat → Nat → Int32 → Int32
  | 0, _, s => s
  | m + 1, i, s => xs_sm A m (i + 1) (s + A.a 5 i)
/-- the class's part, the reference's part -/
def xs_JC (A : xs_A) (h : xw_M) : Prop := xs_CR 0 h A ∧ xs_Tr h A
def xs_cS {β : Type} (h : xw_M) (o : Option (xw_M × β)) (r : β) (A' : xs_A) : Prop := ∃ h', o = some (h', r) ∧ xs_JC A' h' ∧ ∀ c, 350 ≤ c → h' c = h c
section AK
variable {h : xw_M} {A : xs_A} {k : Nat}
theorem xs_stv_eq {x : Int32} (hx : (x = 1 ∧ xs_stk A) ∨ (x = 0 ∧ ¬ xs_stk A)) : x = xs_stv A := by
  unfold xs_stv
  rcases hx with ⟨a, b⟩ | ⟨a, b⟩
  · rw [@if_pos _ (Classical.propDecidable _) b, a]
  · rw [@if_neg _ (Classical.propDecidable _) b, a]
theorem xs_stv_01 : xs_stv A = 0 ∨ xs_stv A = 1 := by
  by_cases e : xs_stk A
  · exact Or.inr (xs_stv_eq (Or.inl ⟨rfl, e⟩)).symm
  · exact Or.inl (xs_stv_eq (Or.inr ⟨rfl, e⟩)).symm
theorem xs_udv_eq {p : xs_A → Prop} {v : Int32} (hv : xs_Ud p 200 0 A v) : v = xs_udv p A := xs_Ud_one 200 0 A hv (Classical.epsilon_spec (p := fun v => xs_Ud p 200 0 A v) ⟨v, hv⟩)
theorem xs_pwv_eq {c p : Nat} (hp : A.a 8 c = nI p) (hp8 : p ≤ 8) {v : Int32} (hv : xs_Pw A c (9 - p) p v) : v = xs_pwv A c := by
  have e : (A.a 8 c).toNatClampNeg = p := by rw [hp, nI_clamp (by omega)]
  have hv : xs_Pw A c (9 - (A.a 8 c).toNatClampNeg) (A.a 8 c).toNatClampNeg v := by rw [e]; exact hv
  exact xs_Pw_one _ _ hv (Classical.epsilon_spec (p := fun v => xs_Pw A c (9 - (A.a 8 c).toNatClampNeg) (A.a 8 c).toNatClampNeg v) ⟨v, hv⟩)
theorem xs_cS.rf {β : Type} {r : β} (j : xs_JC A h) : xs_cS h (some (h, r)) r A := ⟨h, rfl, j, fun _ _ => rfl⟩
theorem xs_JC.off {h' : xw_M} (j : xs_JC A h) (hs : A.sz) (o : ∀ c, c < 350 → h' c = h c) : xs_JC A h' := by
  obtain ⟨C, t⟩ := j
  have o1 : xs_off (fun c => ¬ c < 350) h h' := fun c hc => o c (Classical.byContradiction hc)
  exact ⟨C.off hs o1 (fun c hc z => z (by unfold xs_rg at hc; omega)), t.off o1 (fun c hc z => z (by unfold xs_rg at hc; omega))⟩
theorem xs_cq_congr {p q : Nat → Bool} : ∀ (m i : Nat), (∀ g, i ≤ g → g < i + m → p g = q g) → xs_cq p m i = xs_cq q m i := by
  intro m
  induction m with
  | zero => exact fun i _ => rfl
  | succ m ih =>
    intro i e
    unfold xs_cq
    rw [e i (by omega) (by omega), ih (i + 1) (fun g h1 h2 => e g (by omega) (by omega))]
theorem xs_cq_len : ∀ (m i : Nat) (l : List Int32), i + m ≤ 8 → l.Nodup → (∀ x ∈ l, ∃ g, i ≤ g ∧ g < i + m ∧ x = nI g) → l.length = xs_cq (fun g => decide (nI g ∈ l)) m i := by
  intro m
  induction m with
  | zero =>
    intro i l hi hn hl
    cases l with
    | nil => rfl
    | cons x l =>
      obtain ⟨g, g1, g2, _⟩ := hl x List.mem_cons_self
      omega
  | succ m ih =>
    intro i l hi hn hl
    unfold xs_cq
    by_cases hm : nI i ∈ l
    · have h3 := ih (i + 1) (l.erase (nI i)) (by omega) (hn.erase _) (fun x hx => by
        obtain ⟨g, g1, g2, hgx⟩ := hl x (List.mem_of_mem_erase hx)
        have : g ≠ i := fun e => by
          subst e
          rw [hgx] at hx
          exact ((hn.mem_erase_iff).mp hx).1 rfl
        exact ⟨g, by omega, by omega, hgx⟩)
      have h4 : xs_cq (fun g => decide (nI g ∈ l.erase (nI i))) m (i + 1) = xs_cq (fun g => decide (nI g ∈ l)) m (i + 1) := xs_cq_congr m (i + 1) (fun g g1 g2 => by
        have hne : nI g ≠ nI i := fun e => by have := xs_inj (by omega) (by omega) e; omega
        rw [decide_eq_decide, hn.mem_erase_iff]
        exact ⟨fun z => z.2, fun z => ⟨hne, z⟩⟩)
      rw [List.length_erase_of_mem hm, h4] at h3
      have := List.length_pos_of_mem hm
      rw [if_pos (decide_eq_true hm)]
      omega
    · have h3 := ih (i + 1) l (by omega) hn (fun x hx => by
        obtain ⟨g, g1, g2, hgx⟩ := hl x hx
        have : g ≠ i := fun e => hm (by rw [← e, ← hgx]; exact hx)
        exact ⟨g, by omega, by omega, hgx⟩)
      rw [if_neg (fun z => hm (of_decide_eq_true z)), Nat.zero_add]
      exact h3
theorem xs_W.cq (w : xs_W A 99) {n : Nat} (hn : A.fL n) : (A.ls n).length = xs_cq (fun g => decide (nI g ∈ A.ls n)) A.nF 0 := by
  have h8 := w.1.2.1
  refine xs_cq_len A.nF 0 (A.ls n) (by omega) (w.2.2.2.2.2 n hn).1.1 (fun x hx => ?_)
  obtain ⟨g, hg, e⟩ := w.fibs hn x hx
  exact ⟨g, by omega, by omega, e⟩
/-! the class answers -/
theorem xs_cTime (j : xs_JC A h) : mX5_time 350 h = some (h, A.a 9 0) := by
  have g : h 0 7 = A.a 9 0 := j.1.sca 9 0 (Or.inr (Or.inr (Or.inl ⟨rfl, rfl⟩)))
  unfold mX5_time
  rw [g]
theorem xs_cChannels (j : xs_JC A h) : mX5_channels 350 h = some (h, nI A.nC) := by
  unfold mX5_channels
  rw [j.1.c5]
theorem xs_cFibers (j : xs_JC A h) : mX5_fibers 350 h = some (h, nI A.nF) := by
  unfold mX5_fibers
  rw [j.1.c6]
theorem xs_cDone (j : xs_JC A h) : mX5_done 350 h = some (h, nI (xs_no A 5 A.nF 0)) := by
  unfold mX5_done
  rw [xs_cCount j.1]
  rfl
theorem xs_cIdle (j : xs_JC A h) : mX5_idleTurns 350 h = some (h, A.a 10 0) := by
  have g : h 0 8 = A.a 10 0 := j.1.sca 10 0 (Or.inr (Or.inr (Or.inr (Or.inl ⟨rfl, rfl⟩))))
  unfold mX5_idleTurns
  rw [g]
theorem xs_cNext (j : xs_JC A h) : mX5_next 350 h = some (h, xs_nx A) := by
  have q := j.1.que 0 (Or.inl rfl)
  have q : xs_Q h (0 + 3) (A.ls 0) := q
  unfold mX5_next xs_nx
  cases he : A.ls 0 with
  | nil =>
    rw [he] at q
    rw [show (0 : Int32) = nI 0 from rfl, xs_lookNone q (i := 0) (Nat.le_refl _) (by omega)]
    rfl
  | cons x l =>
    rw [he] at q
    rw [show (0 : Int32) = nI 0 from rfl, xs_look q (i := 0) (Nat.succ_pos _)]
    rfl
theorem xs_cIsStuck (j : xs_JC A h) : mX5_isStuck 350 h = some (h, xs_stv A) := by
  unfold mX5_isStuck
  obtain ⟨x, ex, hx⟩ := xs_cStop j.1
  rw [ex, Option.bind_some]
  dsimp only
  rcases hx with ⟨rfl, hx⟩ | ⟨rfl, hx⟩
  · rw [if_neg (by decide)]
    obtain ⟨y, ey, hy⟩ := xs_cAll j.1
    rw [ey, Option.bind_some]
    dsimp only
    rcases hy with ⟨rfl, hy⟩ | ⟨rfl, hy⟩
    · rw [if_neg (by decide), xs_stv_eq (Or.inr ⟨rfl, fun z => z.2 hy⟩)]
    · rw [if_pos rfl, xs_stv_eq (Or.inl ⟨rfl, hx, hy⟩)]
  · rw [if_pos rfl, xs_stv_eq (Or.inr ⟨rfl, fun z => hx z.1⟩)]
theorem xs_cUntilStuck (j : xs_JC A h) (w : xs_W A 99) (fa : xs_fresh A) : xs_cS h (mX5_turnsUntilStuck 350 h) (xs_udv xs_stk A) A := by
  unfold mX5_turnsUntilStuck
  obtain ⟨h1, e1, C1, o1⟩ := j.2.like j.1 w.1 fa
  rw [e1, Option.bind_some]
  obtain ⟨h2, v, T, e2, u2, C2, w2, f2, o2⟩ := xs_cUs 200 0 xo_n h1 A C1 w (by omega) (by decide)
  rw [xs_udv_eq u2] at e2
  exact ⟨h2, e2, ⟨j.1.off w.1 (o1.tr o2) (fun c hc => xs_rgs hc), xs_Tr.of C2 f2 fa w.1⟩, fun c hc => (o1.tr o2) c (by unfold xs_rg; omega)⟩
/-! of a fiber, of a channel -/
theorem xs_cF1 (C : xs_CR 0 h A) {f : Nat} (hf : f < A.nF) : mX5_isFiber 350 (nI f) h = some (h, 1) := by
  have h8 := C.bd.2
  unfold mX5_isFiber
  rw [if_neg (nI_pos (by omega)), if_neg (by rw [C.c6]; exact nI_ge hf (by omega))]
theorem xs_cF0 (C : xs_CR 0 h A) {x : Int32} (hx : ∀ f, f < A.nF → x ≠ nI f) : mX5_isFiber 350 x h = some (h, 0) := by
  have h8 := C.bd.2
  unfold mX5_isFiber
  by_cases h0 : x < 0
  · rw [if_pos h0]
  · obtain ⟨i, hi, rfl⟩ := nI_of h0
    have : A.nF ≤ i := Nat.le_of_not_lt (fun z => hx i z rfl)
    rw [if_neg h0, if_pos (by rw [C.c6]; exact nI_le this hi)]
theorem xs_cC1 (C : xs_CR 0 h A) {f : Nat} (hf : f < A.nC) : mX5_isChannel 350 (nI f) h = some (h, 1) := by
  have h8 := C.bd.1
  unfold mX5_isChannel
  rw [if_neg (nI_pos (by omega)), if_neg (by rw [C.c5]; exact nI_ge hf (by omega))]
theorem xs_cC0 (C : xs_CR 0 h A) {x : Int32} (hx : ∀ f, f < A.nC → x ≠ nI f) : mX5_isChannel 350 x h = some (h, 0) := by
  have h8 := C.bd.1
  unfold mX5_isChannel
  by_cases h0 : x < 0
  · rw [if_pos h0]
  · obtain ⟨i, hi, rfl⟩ := nI_of h0
    have : A.nC ≤ i := Nat.le_of_not_lt (fun z => hx i z rfl)
    rw [if_neg h0, if_pos (by rw [C.c5]; exact nI_le this hi)]
theorem xs_ckF1 (C : xs_CR 0 h A) {f : Nat} (hf : f < A.nF) : mX5_checkFiber 350 (nI f) h = some (h, (), 0) := by
  unfold mX5_checkFiber
  rw [xs_cF1 C hf, Option.bind_some]
  exact if_neg (show ¬ (1 : Int32) = 0 by decide)
theorem xs_ckF0 (C : xs_CR 0 h A) {x : Int32} (hx : ∀ f, f < A.nF → x ≠ nI f) : mX5_checkFiber 350 x h = some (h, (), 3) := by
  unfold mX5_checkFiber
  rw [xs_cF0 C hx, Option.bind_some]
  exact if_pos rfl
theorem xs_ckC1 (C : xs_CR 0 h A) {f : Nat} (hf : f < A.nC) : mX5_checkChannel 350 (nI f) h = some (h, (), 0) := by
  unfold mX5_checkChannel
  rw [xs_cC1 C hf, Option.bind_some]
  exact if_neg (show ¬ (1 : Int32) = 0 by decide)
theorem xs_ckC0 (C : xs_CR 0 h A) {x : Int32} (hx : ∀ f, f < A.nC → x ≠ nI f) : mX5_checkChannel 350 x h = some (h, (), 3) := by
  unfold mX5_checkChannel
  rw [xs_cC0 C hx, Option.bind_some]
  exact if_pos rfl
theorem xs_ckT1 {t : Nat} (h1 : 1 ≤ t) (h2 : t ≤ 60) : mX5_checkTurns 350 (nI t) h = some (h, (), 0) := by
  unfold mX5_checkTurns
  rw [if_neg (by rw [show (1 : Int32) = nI 1 from rfl]; exact nI_nlt h1 (by omega)), if_pos (by rw [show (60 : Int32) = nI 60 from by decide]; exact nI_le h2 (by omega))]
theorem xs_ckT0 {x : Int32} (hx : ∀ t, 1 ≤ t → t ≤ 60 → x ≠ nI t) : mX5_checkTurns 350 x h = some (h, (), 1) := by
  unfold mX5_checkTurns
  by_cases h1 : x < 1
  · rw [if_pos h1]
  · rw [if_neg h1]
    by_cases h60 : x ≤ 60
    · obtain ⟨i, hi, rfl⟩ := nI_of2 (x := x) (M := 60) (n := 60) (by decide) (fun z => h1 (Int32.lt_of_lt_of_le z (by decide))) h60
      have : 1 ≤ i := Nat.le_of_not_lt (fun z => h1 (by rw [show i = 0 by omega]; decide))
      exact absurd rfl (hx i this hi)
    · rw [if_neg h60]
theorem xs_th0 {α β : Type} {d : β} {m : xw_M} {a : α} {B : Option (xw_M × β × Nat)} : xo_th d (m, a, 0) B = B := rfl
theorem xs_th3 {α β : Type} {d : β} {m : xw_M} {a : α} {B : Option (xw_M × β × Nat)} : xo_th d (m, a, 3) B = some (m, d, 3) := rfl
theorem xs_th1 {α β : Type} {d : β} {m : xw_M} {a : α} {B : Option (xw_M × β × Nat)} : xo_th d (m, a, 1) B = some (m, d, 1) := rfl
end AK
