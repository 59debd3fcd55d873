/-! the pure part: the reference's memory and the clock without memory -/
/-- a scalar's slot in the row of numbers -/
def xs_m (t i : Nat) : Nat := if t ≤ 6 then 4 + 8 * t + i else if t = 8 then 164 + i else if t = 9 then 0 else if t = 10 then 1 else 68 + 12 * (t - 20) + i
/-- where the row keeps a list's size, and its first -/
def xs_mn (n : Nat) : Nat := if n = 0 then 3 else 167 + n
def xs_mb (n : Nat) : Nat := if n = 0 then 4 else 164 + 8 * n
/-- the lists that the row keeps as such -/
def xs_A.dL (_ : xs_A) (n : Nat) : Prop := n = 0 ∨ (1 ≤ n ∧ n < 5)
/-- the scalars that the row keeps as the clock does: all but the states of the unborn -/
def xs_A.dR (A : xs_A) (t i : Nat) : Prop := (1 ≤ t ∧ t ≤ 6 ∧ i < A.nF) ∨ (t = 8 ∧ i < 4) ∨ (t = 9 ∧ i = 0) ∨ (t = 10 ∧ i = 0) ∨ (20 ≤ t ∧ t < 28 ∧ i < 12) ∨ (2 ≤ t ∧ t ≤ 6 ∧ i < 8)
/-- the row g says what A says; S: since when a fiber waits, k: the count of waits -/
def xs_R (g : Nat → Int32) (A : xs_A) (S : Nat → Nat) (k : Nat) : Prop :=
  (∀ t i, A.dR t i → g (xs_m t i) = A.a t i) ∧
  (∀ n, A.dL n → (A.ls n).length ≤ 8 ∧ g (xs_mn n) = nI (A.ls n).length ∧ ∀ i, i < (A.ls n).length → g (xs_mb n + i) = (A.ls n).getD i 0) ∧
  g 2 = nI k ∧ (∀ f, f < 8 → g (60 + f) = nI (S f) ∧ S f ≤ k) ∧
  (∀ f, f < A.nF → A.a 1 f = 1 ∨ A.a 1 f = 2 → S f < k) ∧
  ∀ n, A.fL n → n ≠ 0 → (A.ls n).Pairwise (fun x y => S x.toNatClampNeg < S y.toNatClampNeg)
/-- what the reference keeps beside the row -/
def xs_K (h : xw_M) (A : xs_A) : Prop := h 351 1 = nI A.nC ∧ h 351 2 = nI A.nF ∧ (∀ f, f < 8 → h 352 f = nI (A.sc f)) ∧ ∀ f j, f < A.nF → j < A.sc f → h 353 (12 * f + j) = A.kd f j ∧ h 354 (12 * f + j) = A.on f j ∧ h 355 (12 * f + j) = A.tw f j
section MR
variable {g : Nat → Int32} {A : xs_A} {S : Nat → Nat} {k : Nat}
theorem xs_m_inj (hs : A.sz) {t i t' i' : Nat} (h1 : A.dR t i) (h2 : A.dR t' i') (hk : xs_m t i = xs_m t' i') : t = t' ∧ i = i' := by
  obtain ⟨s1, s2, s3⟩ := hs
  unfold xs_m at hk
  rcases h1 with ⟨a1, a2, a3⟩ | ⟨a1, a2⟩ | ⟨a1, a2⟩ | ⟨a1, a2⟩ | ⟨a1, a2, a3⟩ | ⟨a1, a2, a3⟩ <;> rcases h2 with ⟨b1, b2, b3⟩ | ⟨b1, b2⟩ | ⟨b1, b2⟩ | ⟨b1, b2⟩ | ⟨b1, b2, b3⟩ | ⟨b1, b2, b3⟩ <;> (repeat' split at hk) <;> omega
/-- a scalar's slot is none of the others -/
theorem xs_m_ne (hs : A.sz) {t i : Nat} (h1 : A.dR t i) : (∀ n, A.dL n → xs_m t i ≠ xs_mn n ∧ ∀ j, j < 8 → xs_m t i ≠ xs_mb n + j) ∧ xs_m t i ≠ 2 ∧ (∀ f, f < 8 → xs_m t i ≠ 60 + f) ∧ xs_m t i < 168 := by
  obtain ⟨s1, s2, s3⟩ := hs
  have hm : xs_m t i < 168 ∧ xs_m t i ≠ 2 ∧ xs_m t i ≠ 3 ∧ ¬ (4 ≤ xs_m t i ∧ xs_m t i < 12) ∧ ¬ (60 ≤ xs_m t i ∧ xs_m t i < 68) := by
    unfold xs_m
    rcases h1 with ⟨a1, a2, a3⟩ | ⟨a1, a2⟩ | ⟨a1, a2⟩ | ⟨a1, a2⟩ | ⟨a1, a2, a3⟩ | ⟨a1, a2, a3⟩ <;> (repeat' split) <;> omega
  refine ⟨fun n hn => ?_, hm.2.1, fun f hf => by omega, hm.1⟩
  unfold xs_mn xs_mb
  rcases hn with b1 | ⟨b1, b2⟩ <;> (repeat' split) <;> exact ⟨by omega, fun j hj => by omega⟩
theorem xs_upd_ne {j j' : Nat} {v : Int32} (h : j' ≠ j) : upd g j v j' = g j' := if_neg h
theorem xs_upd_eq {j : Nat} {v : Int32} : upd g j v j = v := if_pos rfl
/-- a scalar is set (of a state: to one that waits at no channel) -/
theorem xs_R.set (hR : xs_R g A S k) (hs : A.sz) {t i : Nat} (hd : A.dR t i) (v : Int32) (hv : t = 1 → v ≠ 1 ∧ v ≠ 2) : xs_R (upd g (xs_m t i) v) (A.set t i v) S k := by
  obtain ⟨r1, r2, r3, r4, r5, r6⟩ := hR
  obtain ⟨n1, n2, n3, n4⟩ := xs_m_ne hs hd
  refine ⟨fun t' i' h' => ?_, fun n hn => ⟨(r2 n hn).1, ?_, fun j hj => ?_⟩, ?_, fun f hf => ?_, fun f hf hw => ?_, r6⟩
  · show _ = (if t' = t ∧ i' = i then v else A.a t' i')
    by_cases e : t' = t ∧ i' = i
    · obtain ⟨rfl, rfl⟩ := e
      rw [xs_upd_eq, if_pos ⟨rfl, rfl⟩]
    · rw [if_neg e, xs_upd_ne (fun z => e (xs_m_inj hs h' hd z))]
      exact r1 t' i' h'
  · rw [xs_upd_ne (n1 n hn).1.symm]; exact (r2 n hn).2.1
  · have h8 := (r2 n hn).1
    have hj : j < (A.ls n).length := hj
    rw [xs_upd_ne ((n1 n hn).2 j (by omega)).symm]; exact (r2 n hn).2.2 j hj
  · rw [xs_upd_ne n2.symm]; exact r3
  · rw [xs_upd_ne (n3 f hf).symm]; exact r4 f hf
  · by_cases e : 1 = t ∧ f = i
    · obtain ⟨rfl, rfl⟩ := e
      rw [xs_set_eq] at hw
      exact absurd hw (fun z => z.elim (hv rfl).1 (hv rfl).2)
    · rw [xs_set_ne e] at hw
      exact r5 f hf hw
/-- a number comes to the end of the line, or of the drops -/
theorem xs_R.add (hR : xs_R g A S k) (hs : A.sz) {n : Nat} (hn : A.dL n) (hl : (A.ls n).length < 8) (x : Int32) : xs_R (upd (upd g (xs_mb n + (A.ls n).length) x) (xs_mn n) (nI ((A.ls n).length + 1))) (A.setL n (A.ls n ++ [x])) S k := by
  obtain ⟨r1, r2, r3, r4, r5, r6⟩ := hR
  have s1 := hs.1
  have s2 := hs.2.1
  have hb : ∀ m, A.dL m → ∀ j, j < 8 → xs_mb m + j ≠ xs_mn n ∧ xs_mn m ≠ xs_mb n + j ∧ (m ≠ n → xs_mn m ≠ xs_mn n) ∧ (m ≠ n → ∀ j', j' < 8 → xs_mb m + j ≠ xs_mb n + j') := by
    intro m hm j hj
    unfold xs_mb xs_mn
    unfold xs_A.dL at hm hn
    refine ⟨?_, ?_, fun _ => ?_, fun _ j' hj' => ?_⟩ <;> (repeat' split) <;> omega
  have h2 : 2 ≠ xs_mn n ∧ 2 ≠ xs_mb n + (A.ls n).length ∧ ∀ f, f < 8 → 60 + f ≠ xs_mn n ∧ 60 + f ≠ xs_mb n + (A.ls n).length := by
    unfold xs_mb xs_mn
    unfold xs_A.dL at hn
    refine ⟨?_, ?_, fun f hf => ⟨?_, ?_⟩⟩ <;> (repeat' split) <;> omega
  refine ⟨fun t i hd => ?_, fun m hm => ?_, ?_, fun f hf => ?_, r5, fun m hm h0 => ?_⟩
  · have hne := (xs_m_ne hs hd).1 n hn
    rw [xs_upd_ne hne.1, xs_upd_ne (hne.2 _ hl)]
    exact r1 t i hd
  · have hm : A.dL m := hm
    by_cases e : m = n
    · subst e
      rw [xs_setL_eq, List.length_append]
      refine ⟨by show _ + 1 ≤ 8; omega, xs_upd_eq, fun i hi => ?_⟩
      have hi : i < (A.ls m).length + 1 := hi
      rw [xs_upd_ne (hb m hm i (by omega)).1, xs_gd]
      by_cases e2 : i = (A.ls m).length
      · rw [e2, xs_upd_eq, if_neg (by omega), if_pos rfl]
      · rw [if_pos (by omega), xs_upd_ne (by omega)]
        exact (r2 m hm).2.2 i (by omega)
    · rw [xs_setL_ne e]
      obtain ⟨q1, q2, q3⟩ := r2 m hm
      refine ⟨q1, ?_, fun i hi => ?_⟩
      · rw [xs_upd_ne ((hb m hm 0 (by omega)).2.2.1 e), xs_upd_ne (hb m hm _ hl).2.1]; exact q2
      · rw [xs_upd_ne (hb m hm i (by omega)).1, xs_upd_ne ((hb m hm i (by omega)).2.2.2 e _ hl)]; exact q3 i hi
  · rw [xs_upd_ne h2.1, xs_upd_ne h2.2.1]; exact r3
  · rw [xs_upd_ne (h2.2.2 f (by omega)).1, xs_upd_ne (h2.2.2 f (by omega)).2]; exact r4 f hf
  · have hm : A.fL m := hm
    rw [xs_setL_ne (by unfold xs_A.fL at hm; unfold xs_A.dL at hn; omega)]
    exact r6 m hm h0
end MR
