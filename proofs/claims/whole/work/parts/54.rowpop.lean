/-! the reference's row gives its lists' firsts: arraycopy -/
section RZ
variable {h : xw_M} {A : xs_A} {S : Nat → Nat} {k : Nat}
theorem xs_R.pop {g g' : Nat → Int32} (hR : xs_R g A S k) (hs : A.sz) {n : Nat} (hn : A.dL n) {x : Int32} {l : List Int32} (he : A.ls n = x :: l) (h1 : g' (xs_mn n) = nI l.length) (h2 : ∀ j, j < l.length → g' (xs_mb n + j) = g (xs_mb n + (j + 1))) (h3 : ∀ j, j ≠ xs_mn n → (∀ q, q < 8 → j ≠ xs_mb n + q) → g' j = g j) : xs_R g' (A.setL n l) S k := by
  obtain ⟨r1, r2, r3, r4, r5, r6⟩ := hR
  have s1 := hs.1
  have s2 := hs.2.1
  have hb : ∀ m, A.dL m → m ≠ n → ∀ j, j < 8 → xs_mb m + j ≠ xs_mn n ∧ xs_mn m ≠ xs_mn n ∧ (∀ q, q < 8 → xs_mn m ≠ xs_mb n + q) ∧ (∀ j', j' < 8 → xs_mb m + j ≠ xs_mb n + j') := by
    intro m hm hmn j hj
    unfold xs_mb xs_mn
    unfold xs_A.dL at hm hn
    refine ⟨?_, ?_, fun q hq => ?_, fun j' hj' => ?_⟩ <;> (repeat' split) <;> omega
  have hz : 2 ≠ xs_mn n ∧ (∀ q, q < 8 → 2 ≠ xs_mb n + q) ∧ ∀ f, f < 8 → 60 + f ≠ xs_mn n ∧ ∀ q, q < 8 → 60 + f ≠ xs_mb n + q := by
    unfold xs_mb xs_mn
    unfold xs_A.dL at hn
    refine ⟨?_, fun q hq => ?_, fun f hf => ⟨?_, fun q hq => ?_⟩⟩ <;> (repeat' split) <;> omega
  refine ⟨fun t i hd => ?_, fun m hm => ?_, ?_, fun f hf => ?_, r5, fun m hm h0 => ?_⟩
  · have hne := (xs_m_ne hs hd).1 n hn
    rw [h3 _ hne.1 hne.2]
    exact r1 t i hd
  · have hm : A.dL m := hm
    by_cases e : m = n
    · subst e
      obtain ⟨q1, q2, q3⟩ := r2 m hm
      rw [he] at q1 q3
      rw [xs_setL_eq]
      refine ⟨Nat.le_of_succ_le q1, h1, fun i hi => ?_⟩
      rw [h2 i hi]
      exact q3 (i + 1) (Nat.succ_lt_succ hi)
    · rw [xs_setL_ne e]
      obtain ⟨q1, q2, q3⟩ := r2 m hm
      refine ⟨q1, ?_, fun i hi => ?_⟩
      · have := hb m hm e 0 (by omega)
        rw [h3 _ this.2.1 this.2.2.1]; exact q2
      · have := hb m hm e i (by omega)
        rw [h3 _ this.1 this.2.2.2]; exact q3 i hi
  · rw [h3 _ hz.1 hz.2.1]; exact r3
  · have := hz.2.2 f (by omega)
    rw [h3 _ this.1 this.2]; exact r4 f hf
  · have hm : A.fL m := hm
    by_cases e : m = n
    · have hn0 : n = 0 := by unfold xs_A.fL at hm; unfold xs_A.dL at hn; omega
      exact absurd (e.trans hn0) h0
    · rw [xs_setL_ne e]
      exact r6 m hm h0
end RZ
