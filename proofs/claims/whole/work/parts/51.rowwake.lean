/-! the reference wakes the one that waited the longest: the first of the list -/
section RW
variable {h : xw_M} {A : xs_A} {S : Nat → Nat} {k : Nat}
theorem xs_R.popW {g : Nat → Int32} (hR : xs_R g A S k) (hs : A.sz) {n : Nat} (hn : A.fL n) (h0 : n ≠ 0) {x : Int32} {l : List Int32} (he : A.ls n = x :: l) : xs_R g (A.setL n l) S k := by
  obtain ⟨r1, r2, r3, r4, r5, r6⟩ := hR
  have s1 := hs.1
  refine ⟨r1, fun m hm => ?_, r3, r4, r5, fun m hm hm0 => ?_⟩
  · have hm : A.dL m := hm
    rw [xs_setL_ne (by unfold xs_A.dL at hm; unfold xs_A.fL at hn; omega)]
    exact r2 m hm
  · by_cases e : m = n
    · rw [e, xs_setL_eq]
      have := r6 n hn h0
      rw [he] at this
      exact (List.pairwise_cons.mp this).2
    · rw [xs_setL_ne e]
      exact r6 m hm hm0
theorem xs_rWakeLoop {n : Nat} {s x : Int32} (hK : xs_K h A) (hR : xs_R (h 356) A S k) (hk : k < 2 ^ 31) (hs : A.sz)
    (hp : ∀ f, f < A.nF → A.a 1 f = s → A.a 2 f = nI (A.pl f) ∧ A.pl f < A.sc f) (hc : ∀ f, f < A.nF → ((A.a 1 f = s ∧ A.on f (A.pl f) = x) ↔ nI f ∈ A.ls n)) :
    ∀ (m i fu : Nat) (best : Int32), i + m = A.nF → m < fu → ((best = -1 ∧ ∀ j, j < i → ¬ nI j ∈ A.ls n) ∨ ∃ b, b < i ∧ best = nI b ∧ nI b ∈ A.ls n ∧ ∀ j, j < i → nI j ∈ A.ls n → S b ≤ S j) →
    ∃ best', ((best' = -1 ∧ ∀ j, j < A.nF → ¬ nI j ∈ A.ls n) ∨ ∃ b, b < A.nF ∧ best' = nI b ∧ nI b ∈ A.ls n ∧ ∀ j, j < A.nF → nI j ∈ A.ls n → S b ≤ S j) ∧ mX6_wake_b5 351 s x fu h best (nI i) = (if best' = -1 then some (h, ()) else (mX6_ready 351 best' h).bind fun r1 => some (r1.1, ())) := by
  have h8 := hs.2.1
  intro m
  induction m with
  | zero =>
    intro i fu best hi hfu hb
    cases fu with
    | zero => omega
    | succ fu =>
      refine ⟨best, ?_, ?_⟩
      · have hi : i = A.nF := by omega
        subst hi
        exact hb
      · rw [mX6_wake_b5, if_pos (by rw [hK.2.1]; exact nI_le (by omega) (by omega))]
  | succ m ih =>
    intro i fu best hi hfu hb
    cases fu with
    | zero => omega
    | succ fu =>
      have hi2 : i < A.nF := by omega
      rw [mX6_wake_b5, if_neg (by rw [hK.2.1]; exact nI_ge hi2 (by omega)), xs_rWaits hK hR hs hi2 (hp i hi2), Option.bind_some]
      dsimp only
      by_cases hm : nI i ∈ A.ls n
      · rw [if_pos ((hc i hi2).mpr hm), if_neg (by decide)]
        rcases hb with ⟨b1, b2⟩ | ⟨b, b1, b2, b3, b4⟩
        · rw [if_pos b1]
          unfold mX6_wake_b52 mX6_wake_b55
          rw [nI_1]
          refine ih (i + 1) fu (nI i) (by omega) (by omega) (Or.inr ⟨i, by omega, rfl, hm, fun j hj hjm => ?_⟩)
          by_cases e : j = i
          · rw [e]; exact Nat.le_refl _
          · exact absurd hjm (b2 j (by omega))
        · rw [if_neg (by rw [b2]; intro z; have := nI_pos (n := b) (by omega); rw [z] at this; exact this (by decide)), xs_i 60 (by decide), b2, xs_i 60 (by decide), if_pos (xs_ix (by omega) (by decide)), if_pos (xs_ix (by omega) (by decide)), nI_clamp (by omega), nI_clamp (by omega)]
          have gi := hR.2.2.2.1 i (by omega)
          have gb := hR.2.2.2.1 b (by omega)
          have gi1 : h (351 + 5) (60 + i) = nI (S i) := gi.1
          have gb1 : h (351 + 5) (60 + b) = nI (S b) := gb.1
          by_cases hle : S b ≤ S i
          · rw [if_pos (by rw [gi1, gb1]; exact nI_le hle (by omega))]
            unfold mX6_wake_b55
            rw [nI_1, ← b2]
            refine ih (i + 1) fu best (by omega) (by omega) (Or.inr ⟨b, by omega, b2, b3, fun j hj hjm => ?_⟩)
            by_cases e : j = i
            · rw [e]; exact hle
            · exact b4 j (by omega) hjm
          · rw [if_neg (by rw [gi1, gb1]; exact nI_ge (by omega) (by omega))]
            unfold mX6_wake_b52 mX6_wake_b55
            rw [nI_1]
            refine ih (i + 1) fu (nI i) (by omega) (by omega) (Or.inr ⟨i, by omega, rfl, hm, fun j hj hjm => ?_⟩)
            by_cases e : j = i
            · rw [e]; exact Nat.le_refl _
            · have := b4 j (by omega) hjm; omega
      · rw [if_neg (fun z => hm ((hc i hi2).mp z)), if_pos rfl]
        unfold mX6_wake_b55
        rw [nI_1]
        refine ih (i + 1) fu best (by omega) (by omega) ?_
        rcases hb with ⟨b1, b2⟩ | ⟨b, b1, b2, b3, b4⟩
        · refine Or.inl ⟨b1, fun j hj => ?_⟩
          by_cases e : j = i
          · rw [e]; exact hm
          · exact b2 j (by omega)
        · refine Or.inr ⟨b, by omega, b2, b3, fun j hj hjm => ?_⟩
          by_cases e : j = i
          · rw [e] at hjm; exact absurd hjm hm
          · exact b4 j (by omega) hjm
end RW
