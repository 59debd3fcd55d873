/-! what always holds of a clock: who stands where -/
theorem xs_inj {f g : Nat} (hf : f < 8) (hg : g < 8) (h : nI f = nI g) : f = g := (nI_eq (by omega) (by omega)).mp h
theorem xs_pig : ∀ (n : Nat) (l : List Int32), l.Nodup → (∀ x ∈ l, ∃ g, g < n ∧ x = nI g) → l.length ≤ n := by
  intro n
  induction n with
  | zero =>
    intro l _ h2
    cases l with
    | nil => exact Nat.le_refl _
    | cons x l => obtain ⟨g, hg, _⟩ := h2 x List.mem_cons_self; omega
  | succ n ih =>
    intro l h1 h2
    by_cases hm : nI n ∈ l
    · have h3 := ih (l.erase (nI n)) (h1.erase _) (fun x hx => by
        obtain ⟨g, hg, hgx⟩ := h2 x (List.mem_of_mem_erase hx)
        refine ⟨g, ?_, hgx⟩
        have : g ≠ n := fun e => by
          subst e
          rw [hgx] at hx
          exact ((h1.mem_erase_iff).mp hx).1 rfl
        omega)
      rw [List.length_erase_of_mem hm] at h3
      omega
    · have h3 := ih l h1 (fun x hx => by
        obtain ⟨g, hg, hgx⟩ := h2 x hx
        refine ⟨g, ?_, hgx⟩
        have : g ≠ n := fun e => hm (by rw [← e, ← hgx]; exact hx)
        omega)
      omega
def xs_mem (A : xs_A) (l : List Int32) : Prop := l.Nodup ∧ ∀ x ∈ l, ∃ g, g < A.nF ∧ x = nI g
theorem xs_mem.lt {A : xs_A} {l : List Int32} (h : xs_mem A l) (hs : A.sz) {f : Nat} (hf : f < A.nF) (hn : ¬ nI f ∈ l) : l.length < 8 := by
  have h1 := xs_pig A.nF (nI f :: l) (List.nodup_cons.mpr ⟨hn, h.1⟩) (fun x hx => by
    rcases List.mem_cons.mp hx with e | e
    · exact ⟨f, hf, e⟩
    · exact h.2 x e)
  have h2 : l.length + 1 ≤ A.nF := h1
  have := hs.2.1
  omega
/-- fiber f stands in the list n: it is ready (and not at work), or waits at that channel -/
def xs_A.at (A : xs_A) (r n f : Nat) : Prop := if n = 0 then A.a 1 f = 0 ∧ f ≠ r else if n < 9 then A.a 1 f = 1 ∧ A.on f (A.pl f) = nI (n - 5) else A.a 1 f = 2 ∧ A.on f (A.pl f) = nI (n - 9)
def xs_A.fL (A : xs_A) (n : Nat) : Prop := n = 0 ∨ (5 ≤ n ∧ (n < 5 + A.nC ∨ n < 9)) ∨ (9 ≤ n ∧ (n < 9 + A.nC ∨ n < 13))
theorem xs_A.fL.nL {A : xs_A} {n : Nat} (h : A.fL n) (hs : A.sz) : A.nL n := by
  have h4 := hs.1
  unfold xs_A.fL at h
  unfold xs_A.nL
  omega
def xs_LL (A : xs_A) (r : Nat) : Prop := ∀ n, A.fL n → xs_mem A (A.ls n) ∧ ∀ f, f < A.nF → (nI f ∈ A.ls n ↔ A.at r n f)
/-- one fiber moves from list to list -/
theorem xs_mv {A A' : xs_A} {r r' f : Nat} (hs : A.sz) (hL : xs_LL A r) (eC : A'.nC = A.nC) (eF : A'.nF = A.nF) (hf : f < A.nF) (H : ∀ n g, A.fL n → g < A.nF → g ≠ f → (A'.at r' n g ↔ A.at r n g))
    (K : ∀ n, A.fL n → (A'.ls n = A.ls n ∧ (A'.at r' n f ↔ A.at r n f)) ∨ (A'.ls n = A.ls n ++ [nI f] ∧ A'.at r' n f ∧ ¬ A.at r n f) ∨ (A.ls n = nI f :: A'.ls n ∧ ¬ A'.at r' n f)) : xs_LL A' r' := by
  intro n hn
  have hn : A.fL n := by unfold xs_A.fL at hn ⊢; rw [eC] at hn; exact hn
  obtain ⟨⟨m1, m2⟩, m3⟩ := hL n hn
  have hs8 := hs.2.1
  have hne : ∀ g, g < A.nF → g ≠ f → nI g ≠ nI f := fun g hg h e => h (xs_inj (by omega) (by omega) e)
  unfold xs_mem
  rw [eF]
  rcases K n hn with ⟨k1, k2⟩ | ⟨k1, k2, k3⟩ | ⟨k1, k2⟩
  · rw [k1]
    refine ⟨⟨m1, m2⟩, fun g hg => ?_⟩
    by_cases e : g = f
    · rw [e, m3 f hf, k2]
    · rw [m3 g hg, H n g hn hg e]
  · rw [k1]
    have hnm : ¬ nI f ∈ A.ls n := fun z => k3 ((m3 f hf).mp z)
    refine ⟨⟨?_, fun x hx => ?_⟩, fun g hg => ?_⟩
    · rw [List.nodup_append]
      exact ⟨m1, List.nodup_cons.mpr ⟨List.not_mem_nil, List.nodup_nil⟩, fun a ha b hb e => by
        rcases List.mem_cons.mp hb with e2 | e2
        · rw [e, e2] at ha; exact hnm ha
        · exact absurd e2 List.not_mem_nil⟩
    · rcases List.mem_append.mp hx with h | h
      · exact m2 x h
      · rcases List.mem_cons.mp h with e2 | e2
        · exact ⟨f, hf, e2⟩
        · exact absurd e2 List.not_mem_nil
    · by_cases e : g = f
      · rw [e]
        exact ⟨fun _ => k2, fun _ => List.mem_append_right _ List.mem_cons_self⟩
      · rw [H n g hn hg e, ← m3 g hg, List.mem_append]
        exact ⟨fun z => z.elim id (fun z => by
          rcases List.mem_cons.mp z with e2 | e2
          · exact absurd e2 (hne g hg e)
          · exact absurd e2 List.not_mem_nil), Or.inl⟩
  · rw [k1] at m1 m2 m3
    refine ⟨⟨(List.nodup_cons.mp m1).2, fun x hx => m2 x (List.mem_cons_of_mem _ hx)⟩, fun g hg => ?_⟩
    by_cases e : g = f
    · rw [e]
      exact ⟨fun z => absurd z (List.nodup_cons.mp m1).1, fun z => absurd z k2⟩
    · rw [H n g hn hg e, ← m3 g hg, List.mem_cons]
      exact ⟨Or.inr, fun z => z.elim (fun z => absurd z (hne g hg e)) id⟩
/-- the steps fit what there is -/
def xs_ST (A : xs_A) : Prop := ∀ f j, f < A.nF → j < A.sc f → (A.kd f j = 0 ∨ A.kd f j = 1 ∨ A.kd f j = 6 → ∃ c, c < A.nC ∧ A.on f j = nI c) ∧ (A.kd f j = 4 → ∃ g, g < A.nF ∧ A.on f j = nI g) ∧ (A.kd f j = 5 → ∃ q, q ≤ j ∧ A.on f j = nI q) ∧ (∃ k, k < 7 ∧ A.kd f j = nI k)
def xs_PL (A : xs_A) : Prop := ∀ f, f < A.nF → ∃ p, p ≤ A.sc f ∧ A.a 2 f = nI p
def xs_WT (A : xs_A) : Prop := ∀ f, f < A.nF → (A.a 1 f = 1 ∨ A.a 1 f = 2 ∨ A.a 1 f = 4) → A.pl f < A.sc f
def xs_DR (A : xs_A) : Prop := ∀ c, c < A.nC → ∃ p, 1 ≤ p ∧ p ≤ 8 ∧ A.a 8 c = nI p ∧ (A.ls (1 + c)).length ≤ p
/-- all is in order; fiber r is at work (r = 99: none) -/
def xs_W (A : xs_A) (r : Nat) : Prop := A.sz ∧ xs_ST A ∧ xs_PL A ∧ xs_WT A ∧ xs_DR A ∧ xs_LL A r
section WF
variable {A : xs_A} {r : Nat}
theorem xs_set_a {t i t' i' : Nat} {v : Int32} : (A.set t i v).a t' i' = if t' = t ∧ i' = i then v else A.a t' i' := rfl
theorem xs_set_ne {t i t' i' : Nat} {v : Int32} (h : ¬ (t' = t ∧ i' = i)) : (A.set t i v).a t' i' = A.a t' i' := if_neg h
theorem xs_set_eq {t i : Nat} {v : Int32} : (A.set t i v).a t i = v := if_pos ⟨rfl, rfl⟩
theorem xs_setL_eq {n : Nat} {l : List Int32} : (A.setL n l).ls n = l := if_pos rfl
theorem xs_setL_ne {n m : Nat} {l : List Int32} (h : m ≠ n) : (A.setL n l).ls m = A.ls m := if_neg h
/-- a scalar that is no state, no place, no channel's places -/
theorem xs_W.scal (h : xs_W A r) {t i : Nat} {v : Int32} (ht : t ≠ 1 ∧ t ≠ 2 ∧ t ≠ 8) : xs_W (A.set t i v) r := by
  obtain ⟨h1, h2, h3, h4, h5, h6⟩ := h
  have e1 : ∀ f, (A.set t i v).a 1 f = A.a 1 f := fun f => xs_set_ne (fun z => ht.1 z.1.symm)
  have e2 : ∀ f, (A.set t i v).a 2 f = A.a 2 f := fun f => xs_set_ne (fun z => ht.2.1 z.1.symm)
  have e8 : ∀ f, (A.set t i v).a 8 f = A.a 8 f := fun f => xs_set_ne (fun z => ht.2.2 z.1.symm)
  have ep : ∀ f, (A.set t i v).pl f = A.pl f := fun f => congrArg Int32.toNatClampNeg (e2 f)
  refine ⟨h1, h2, fun f hf => by rw [e2]; exact h3 f hf, fun f hf => by rw [e1, ep]; exact h4 f hf, fun c hc => by rw [e8]; exact h5 c hc, fun n hn => ⟨(h6 n hn).1, fun f hf => ?_⟩⟩
  have := (h6 n hn).2 f hf
  unfold xs_A.at at this ⊢
  rw [e1, ep]
  exact this
/-- a fiber that stands nowhere is ready -/
theorem xs_W.ready (h : xs_W A r) {f : Nat} (hf : f < A.nF) (hr : f ≠ r) (h0 : A.a 1 f ≠ 0 ∧ A.a 1 f ≠ 1 ∧ A.a 1 f ≠ 2) : xs_W (A.ready f) r := by
  obtain ⟨h1, h2, h3, h4, h5, h6⟩ := h
  have e1 : ∀ g, g ≠ f → (A.ready f).a 1 g = A.a 1 g := fun g hg => xs_set_ne (fun z => hg z.2)
  have e0 : (A.ready f).a 1 f = 0 := xs_set_eq
  have e2 : ∀ g, (A.ready f).a 2 g = A.a 2 g := fun g => xs_set_ne (t := 1) (t' := 2) (i := f) (i' := g) (v := 0) (fun z => absurd z.1 (by decide))
  have ep : ∀ g, (A.ready f).pl g = A.pl g := fun f => congrArg Int32.toNatClampNeg (e2 f)
  refine ⟨h1, h2, fun g hg => by rw [e2]; exact h3 g hg, fun g hg hw => ?_, fun c hc => ?_, ?_⟩
  · rw [ep]
    by_cases e : g = f
    · rw [e, e0] at hw
      exact absurd hw (by decide)
    · rw [e1 g e] at hw
      exact h4 g hg hw
  · have e8 : (A.ready f).a 8 c = A.a 8 c := xs_set_ne (t := 1) (t' := 8) (i := f) (i' := c) (v := 0) (fun z => absurd z.1 (by decide))
    have e9 : (A.ready f).ls (1 + c) = A.ls (1 + c) := xs_setL_ne (by omega)
    rw [e8, e9]
    exact h5 c hc
  · refine xs_mv (f := f) h1 h6 rfl rfl hf (fun n g hn hg hne => ?_) (fun n hn => ?_)
    · unfold xs_A.at
      rw [e1 g hne, ep]
      exact Iff.rfl
    · by_cases hn0 : n = 0
      · right; left
        subst hn0
        refine ⟨xs_setL_eq, ?_, ?_⟩
        · unfold xs_A.at; rw [if_pos rfl]; exact ⟨e0, hr⟩
        · unfold xs_A.at; rw [if_pos rfl]; exact fun z => h0.1 z.1
      · left
        refine ⟨xs_setL_ne hn0, ?_⟩
        unfold xs_A.at
        rw [if_neg hn0, if_neg hn0, e0]
        split
        · exact ⟨fun z => absurd z.1 (by decide), fun z => absurd z.1 h0.2.1⟩
        · exact ⟨fun z => absurd z.1 (by decide), fun z => absurd z.1 h0.2.2⟩
end WF
