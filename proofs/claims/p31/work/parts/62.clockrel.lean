/-! the pure part: the clock without its memory -/
abbrev xs_A : Type := Nat × Nat × (Nat → Nat) × (Nat → Nat → Int32) × (Nat → Nat → Int32) × (Nat → Nat → Int32) × (Nat → Nat → Int32) × (Nat → List Int32)
/-- channels, fibers, steps of a fiber; kind, one and two of a step -/
abbrev xs_A.nC (A : xs_A) : Nat := A.1
abbrev xs_A.nF (A : xs_A) : Nat := A.2.1
abbrev xs_A.sc (A : xs_A) : Nat → Nat := A.2.2.1
abbrev xs_A.kd (A : xs_A) : Nat → Nat → Int32 := A.2.2.2.1
abbrev xs_A.on (A : xs_A) : Nat → Nat → Int32 := A.2.2.2.2.1
abbrev xs_A.tw (A : xs_A) : Nat → Nat → Int32 := A.2.2.2.2.2.1
/-- scalars by tag: 1 state, 2 place, 3 sum, 4 steps behind, 5 turns had, 6 wakes at (of a fiber); 8 places (of a channel); 9 now, 10 idle; 20 + f the backs of a step of fiber f -/
abbrev xs_A.a (A : xs_A) : Nat → Nat → Int32 := A.2.2.2.2.2.2.1
/-- 0 the line; 1 + c drops, 5 + c senders, 9 + c takers -/
abbrev xs_A.ls (A : xs_A) : Nat → List Int32 := A.2.2.2.2.2.2.2
def xs_A.set (A : xs_A) (t i : Nat) (v : Int32) : xs_A := (A.nC, A.nF, A.sc, A.kd, A.on, A.tw, (fun t' i' => if t' = t ∧ i' = i then v else A.a t' i'), A.ls)
def xs_A.setL (A : xs_A) (n : Nat) (l : List Int32) : xs_A := (A.nC, A.nF, A.sc, A.kd, A.on, A.tw, A.a, fun m => if m = n then l else A.ls m)
def xs_A.dom (_ : xs_A) (t i : Nat) : Prop := (1 ≤ t ∧ t ≤ 6 ∧ i < 8) ∨ (t = 8 ∧ i < 4) ∨ (t = 9 ∧ i = 0) ∨ (t = 10 ∧ i = 0) ∨ (20 ≤ t ∧ t < 28 ∧ i < 12)
/-- the sizes are in bounds -/
def xs_A.sz (A : xs_A) : Prop := A.nC ≤ 4 ∧ A.nF ≤ 8 ∧ ∀ f, f < A.nF → A.sc f ≤ 12
def xs_A.nL (_ : xs_A) (n : Nat) : Prop := n = 0 ∨ (1 ≤ n ∧ n < 5) ∨ (5 ≤ n ∧ n < 9) ∨ (9 ≤ n ∧ n < 13)
def xs_sk (B t i : Nat) : Nat := if t ≤ 6 then B + 40 + 15 * i else if t = 8 then B + 5 + 7 * i else if t ≤ 10 then B else B + 42 + 15 * (t - 20) + i
def xs_sj (t : Nat) : Nat := if t ≤ 6 then t else if t = 8 then 0 else if t = 9 then 7 else if t = 10 then 8 else 3
def xs_qk (B n : Nat) : Nat := if n = 0 then B + 3 else if n < 5 then B + 6 + 7 * (n - 1) else if n < 9 then B + 8 + 7 * (n - 5) else B + 10 + 7 * (n - 9)
def xs_CR (B : Nat) (h : xw_M) (A : xs_A) : Prop := (A.nC ≤ 4 ∧ A.nF ≤ 8) ∧ (h B 5 = nI A.nC) ∧ (h B 6 = nI A.nF) ∧ (∀ f, f < 8 → h (B + 40 + 15 * f) 0 = nI f) ∧ (∀ f, f < 8 → h (B + 40 + 15 * f) 7 = nI (A.sc f)) ∧ (∀ f j, f < A.nF → j < A.sc f → h (B + 42 + 15 * f + j) 0 = A.kd f j ∧ h (B + 42 + 15 * f + j) 1 = A.on f j ∧ h (B + 42 + 15 * f + j) 2 = A.tw f j) ∧ (∀ t i, A.dom t i → h (xs_sk B t i) (xs_sj t) = A.a t i) ∧ (∀ n, A.nL n → xs_Q h (xs_qk B n) (A.ls n))
theorem xs_CR.c5 {B : Nat} {h : xw_M} {A : xs_A} (C : xs_CR B h A) : h B 5 = nI A.nC := C.2.1
theorem xs_CR.c6 {B : Nat} {h : xw_M} {A : xs_A} (C : xs_CR B h A) : h B 6 = nI A.nF := C.2.2.1
theorem xs_CR.num {B : Nat} {h : xw_M} {A : xs_A} (C : xs_CR B h A) : ∀ f, f < 8 → h (B + 40 + 15 * f) 0 = nI f := C.2.2.2.1
theorem xs_CR.cnt {B : Nat} {h : xw_M} {A : xs_A} (C : xs_CR B h A) : ∀ f, f < 8 → h (B + 40 + 15 * f) 7 = nI (A.sc f) := C.2.2.2.2.1
theorem xs_CR.stp {B : Nat} {h : xw_M} {A : xs_A} (C : xs_CR B h A) : ∀ f j, f < A.nF → j < A.sc f → h (B + 42 + 15 * f + j) 0 = A.kd f j ∧ h (B + 42 + 15 * f + j) 1 = A.on f j ∧ h (B + 42 + 15 * f + j) 2 = A.tw f j := C.2.2.2.2.2.1
theorem xs_CR.sca {B : Nat} {h : xw_M} {A : xs_A} (C : xs_CR B h A) : ∀ t i, A.dom t i → h (xs_sk B t i) (xs_sj t) = A.a t i := C.2.2.2.2.2.2.1
theorem xs_CR.que {B : Nat} {h : xw_M} {A : xs_A} (C : xs_CR B h A) : ∀ n, A.nL n → xs_Q h (xs_qk B n) (A.ls n) := C.2.2.2.2.2.2.2
theorem xs_CR.bd {B : Nat} {h : xw_M} {A : xs_A} (C : xs_CR B h A) : A.nC ≤ 4 ∧ A.nF ≤ 8 := C.1
theorem xs_CR.mk {B : Nat} {h : xw_M} {A : xs_A} (bd : A.nC ≤ 4 ∧ A.nF ≤ 8) (c5 : h B 5 = nI A.nC) (c6 : h B 6 = nI A.nF) (num : ∀ f, f < 8 → h (B + 40 + 15 * f) 0 = nI f) (cnt : ∀ f, f < 8 → h (B + 40 + 15 * f) 7 = nI (A.sc f)) (stp : ∀ f j, f < A.nF → j < A.sc f → h (B + 42 + 15 * f + j) 0 = A.kd f j ∧ h (B + 42 + 15 * f + j) 1 = A.on f j ∧ h (B + 42 + 15 * f + j) 2 = A.tw f j) (sca : ∀ t i, A.dom t i → h (xs_sk B t i) (xs_sj t) = A.a t i) (que : ∀ n, A.nL n → xs_Q h (xs_qk B n) (A.ls n)) : xs_CR B h A := ⟨bd, c5, c6, num, cnt, stp, sca, que⟩
theorem xs_sk_inj {A : xs_A} (hs : A.sz) {B t i t' i' : Nat} (h1 : A.dom t i) (h2 : A.dom t' i') (hk : xs_sk B t i = xs_sk B t' i') (hj : xs_sj t = xs_sj t') : t = t' ∧ i = i' := by
  obtain ⟨s1, s2, s3⟩ := hs
  unfold xs_sk at hk
  unfold xs_sj at hj
  rcases h1 with ⟨a1, a2, a3⟩ | ⟨a1, a2⟩ | ⟨a1, a2⟩ | ⟨a1, a2⟩ | ⟨a1, a2, a3⟩ <;> rcases h2 with ⟨b1, b2, b3⟩ | ⟨b1, b2⟩ | ⟨b1, b2⟩ | ⟨b1, b2⟩ | ⟨b1, b2, b3⟩ <;> (repeat' split at hk) <;> (repeat' split at hj) <;> omega
theorem xs_sk_num {A : xs_A} (hs : A.sz) {B t i f : Nat} (h1 : A.dom t i) (hf : f < 8) : ¬ (xs_sk B t i = B + 40 + 15 * f ∧ (xs_sj t = 0 ∨ xs_sj t = 7)) := by
  obtain ⟨s1, s2, s3⟩ := hs
  unfold xs_sk xs_sj
  rcases h1 with ⟨a1, a2, a3⟩ | ⟨a1, a2⟩ | ⟨a1, a2⟩ | ⟨a1, a2⟩ | ⟨a1, a2, a3⟩ <;> (repeat' split) <;> omega
theorem xs_sk_cnt {A : xs_A} (hs : A.sz) {B t i : Nat} (h1 : A.dom t i) : ¬ (xs_sk B t i = B ∧ (xs_sj t = 5 ∨ xs_sj t = 6)) := by
  unfold xs_sk xs_sj
  rcases h1 with ⟨a1, a2, a3⟩ | ⟨a1, a2⟩ | ⟨a1, a2⟩ | ⟨a1, a2⟩ | ⟨a1, a2, a3⟩ <;> (repeat' split) <;> omega
theorem xs_sk_stp {A : xs_A} (hs : A.sz) {B t i f j : Nat} (h1 : A.dom t i) (hf : f < A.nF) (hj : j < A.sc f) : ¬ (xs_sk B t i = B + 42 + 15 * f + j ∧ (xs_sj t = 0 ∨ xs_sj t = 1 ∨ xs_sj t = 2)) := by
  obtain ⟨s1, s2, s3⟩ := hs
  have k2 := s3 f hf
  unfold xs_sk xs_sj
  rcases h1 with ⟨a1, a2, a3⟩ | ⟨a1, a2⟩ | ⟨a1, a2⟩ | ⟨a1, a2⟩ | ⟨a1, a2, a3⟩ <;> (repeat' split) <;> omega
theorem xs_sk_que {A : xs_A} (hs : A.sz) {B t i n : Nat} (h1 : A.dom t i) (hn : A.nL n) : ¬ xs_kQ (xs_qk B n) (xs_sk B t i) := by
  obtain ⟨s1, s2, s3⟩ := hs
  unfold xs_kQ xs_qk xs_sk
  rcases hn with b1 | ⟨b1, b2⟩ | ⟨b1, b2⟩ | ⟨b1, b2⟩ <;> rcases h1 with ⟨a1, a2, a3⟩ | ⟨a1, a2⟩ | ⟨a1, a2⟩ | ⟨a1, a2⟩ | ⟨a1, a2, a3⟩ <;> (repeat' split) <;> omega
theorem xs_qk_inj {A : xs_A} (hs : A.sz) {B n m : Nat} (hn : A.nL n) (hm : A.nL m) (h : n ≠ m) : ¬ xs_kQ (xs_qk B n) (xs_qk B m) ∧ ¬ xs_kQ (xs_qk B n) (xs_qk B m + 1) := by
  obtain ⟨s1, s2, s3⟩ := hs
  unfold xs_kQ xs_qk
  rcases hn with b1 | ⟨b1, b2⟩ | ⟨b1, b2⟩ | ⟨b1, b2⟩ <;> rcases hm with c1 | ⟨c1, c2⟩ | ⟨c1, c2⟩ | ⟨c1, c2⟩ <;> (repeat' split) <;> omega
theorem xs_qk_st {A : xs_A} (hs : A.sz) {B n : Nat} (hn : A.nL n) : ¬ xs_kQ (xs_qk B n) B ∧ (∀ f, ¬ xs_kQ (xs_qk B n) (B + 40 + f)) := by
  obtain ⟨s1, s2, s3⟩ := hs
  unfold xs_kQ xs_qk
  rcases hn with b1 | ⟨b1, b2⟩ | ⟨b1, b2⟩ | ⟨b1, b2⟩ <;> (repeat' split) <;> exact ⟨by omega, fun f => by omega⟩
theorem xw_stj {h : xw_M} {k j k' j' : Nat} {v : Int32} (hne : ¬ (k' = k ∧ j' = j)) : xw_st h k j v k' j' = h k' j' := by
  by_cases hk : k' = k
  · subst hk
    rw [xw_st_eq]
    exact if_neg (fun e => hne ⟨rfl, e⟩)
  · rw [xw_st_ne _ _ _ _ hk]
theorem xw_stE {h : xw_M} {k j : Nat} {v : Int32} : xw_st h k j v k j = v := by
  rw [xw_st_eq]
  exact if_pos rfl
/-- a scalar is set -/
theorem xs_CR.set {B : Nat} {h : xw_M} {A : xs_A} (hs : A.sz) (C : xs_CR B h A) {t i : Nat} (hd : A.dom t i) (v : Int32) : xs_CR B (xw_st h (xs_sk B t i) (xs_sj t) v) (A.set t i v) := xs_CR.mk
  (bd := ⟨hs.1, hs.2.1⟩)
  (c5 := by rw [xw_stj (fun e => xs_sk_cnt hs hd (B := B) ⟨e.1.symm, Or.inl e.2.symm⟩)]; exact C.c5)
  (c6 := by rw [xw_stj (fun e => xs_sk_cnt hs hd (B := B) ⟨e.1.symm, Or.inr e.2.symm⟩)]; exact C.c6)
  (num := fun f hf => by rw [xw_stj (fun e => xs_sk_num hs hd (B := B) hf ⟨e.1.symm, Or.inl e.2.symm⟩)]; exact C.num f hf)
  (cnt := fun f hf => by rw [xw_stj (fun e => xs_sk_num hs hd (B := B) hf ⟨e.1.symm, Or.inr e.2.symm⟩)]; exact C.cnt f hf)
  (stp := fun f j hf hj => by
    rw [xw_stj (fun e => xs_sk_stp hs hd (B := B) hf hj ⟨e.1.symm, Or.inl e.2.symm⟩), xw_stj (fun e => xs_sk_stp hs hd (B := B) hf hj ⟨e.1.symm, Or.inr (Or.inl e.2.symm)⟩), xw_stj (fun e => xs_sk_stp hs hd (B := B) hf hj ⟨e.1.symm, Or.inr (Or.inr e.2.symm)⟩)]
    exact C.stp f j hf hj)
  (sca := fun t' i' h' => by
    show _ = (if t' = t ∧ i' = i then v else A.a t' i')
    by_cases e : t' = t ∧ i' = i
    · obtain ⟨rfl, rfl⟩ := e
      rw [xw_stE, if_pos ⟨rfl, rfl⟩]
    · rw [if_neg e, xw_stj (fun z => e (xs_sk_inj hs h' hd z.1 z.2))]
      exact C.sca t' i' h')
  (que := fun n hn => by
    have h1 := xs_sk_que hs hd (B := B) hn
    exact (C.que n hn).same (xw_st_ne _ _ _ _ (fun z => h1 (Or.inl z.symm))) (xw_st_ne _ _ _ _ (fun z => h1 (Or.inr z.symm))))
/-- a list is set -/
theorem xs_CR.setL {B : Nat} {h h' : xw_M} {A : xs_A} (hs : A.sz) (C : xs_CR B h A) {n : Nat} (hn : A.nL n) {l : List Int32} (hQ : xs_Q h' (xs_qk B n) l) (ho : xs_off (xs_kQ (xs_qk B n)) h h') : xs_CR B h' (A.setL n l) := xs_CR.mk
  (bd := ⟨hs.1, hs.2.1⟩)
  (c5 := by rw [ho _ (xs_qk_st hs hn).1]; exact C.c5)
  (c6 := by rw [ho _ (xs_qk_st hs hn).1]; exact C.c6)
  (num := fun f hf => by rw [ho _ ((xs_qk_st hs hn).2 _)]; exact C.num f hf)
  (cnt := fun f hf => by rw [ho _ ((xs_qk_st hs hn).2 _)]; exact C.cnt f hf)
  (stp := fun f j hf hj => by
    rw [show B + 42 + 15 * f + j = B + 40 + (2 + 15 * f + j) by omega, ho _ ((xs_qk_st hs hn).2 _), ← show B + 42 + 15 * f + j = B + 40 + (2 + 15 * f + j) by omega]
    exact C.stp f j hf hj)
  (sca := fun t' i' h' => by
    rw [ho _ (xs_sk_que hs h' hn)]
    exact C.sca t' i' h')
  (que := fun m hm => by
    show xs_Q h' (xs_qk B m) (if m = n then l else A.ls m)
    by_cases e : m = n
    · rw [if_pos e, e]; exact hQ
    · rw [if_neg e]
      have h1 := xs_qk_inj hs (B := B) hn hm (fun z => e z.symm)
      exact (C.que m hm).off ho h1.1 h1.2)
/-- all that a clock has lies in its 175 codes -/
def xs_rg (B c : Nat) : Prop := B ≤ c ∧ c < B + 175
theorem xs_CR.off {P : Nat → Prop} {B : Nat} {h h' : xw_M} {A : xs_A} (hs : A.sz) (C : xs_CR B h A) (ho : xs_off P h h') (hP : ∀ c, xs_rg B c → ¬ P c) : xs_CR B h' A := xs_CR.mk
  (bd := ⟨hs.1, hs.2.1⟩)
  (c5 := by rw [ho _ (hP _ ⟨Nat.le_refl _, by omega⟩)]; exact C.c5)
  (c6 := by rw [ho _ (hP _ ⟨Nat.le_refl _, by omega⟩)]; exact C.c6)
  (num := fun f hf => by rw [ho _ (hP _ ⟨by omega, by omega⟩)]; exact C.num f hf)
  (cnt := fun f hf => by have := hs.2.1; rw [ho _ (hP _ ⟨by omega, by omega⟩)]; exact C.cnt f hf)
  (stp := fun f j hf hj => by
    have := hs.2.1
    have := hs.2.2 f hf
    rw [ho _ (hP _ ⟨by omega, by omega⟩)]
    exact C.stp f j hf hj)
  (sca := fun t i hd => by
    rw [ho _ (hP _ ?_)]
    · exact C.sca t i hd
    · obtain ⟨s1, s2, s3⟩ := hs
      unfold xs_rg xs_sk
      rcases hd with ⟨a1, a2, a3⟩ | ⟨a1, a2⟩ | ⟨a1, a2⟩ | ⟨a1, a2⟩ | ⟨a1, a2, a3⟩ <;> (repeat' split) <;> omega)
  (que := fun n hn => by
    have h1 : xs_rg B (xs_qk B n) ∧ xs_rg B (xs_qk B n + 1) := by
      obtain ⟨s1, s2, s3⟩ := hs
      unfold xs_rg xs_qk
      rcases hn with b1 | ⟨b1, b2⟩ | ⟨b1, b2⟩ | ⟨b1, b2⟩ <;> (repeat' split) <;> omega
    exact (C.que n hn).off ho (hP _ h1.1) (hP _ h1.2))
theorem xs_kQ_rg {A : xs_A} (hs : A.sz) {B n : Nat} (hn : A.nL n) : ∀ c, xs_kQ (xs_qk B n) c → xs_rg B c := by
  obtain ⟨s1, s2, s3⟩ := hs
  intro c hc
  unfold xs_kQ xs_qk at hc
  unfold xs_rg
  rcases hn with b1 | ⟨b1, b2⟩ | ⟨b1, b2⟩ | ⟨b1, b2⟩ <;> (repeat' split at hc) <;> omega
theorem xs_sk_rg {A : xs_A} (hs : A.sz) {B t i : Nat} (hd : A.dom t i) : xs_rg B (xs_sk B t i) := by
  obtain ⟨s1, s2, s3⟩ := hs
  unfold xs_rg xs_sk
  rcases hd with ⟨a1, a2, a3⟩ | ⟨a1, a2⟩ | ⟨a1, a2⟩ | ⟨a1, a2⟩ | ⟨a1, a2, a3⟩ <;> (repeat' split) <;> omega
