/-! the reference's step: its pieces -/
section RI
variable {h : xw_M} {A : xs_A} {S : Nat → Nat} {k : Nat}
theorem xs_R.setF {g : Nat → Int32} (hR : xs_R g A S k) (hs : A.sz) {t f : Nat} (ht : 1 ≤ t ∧ t ≤ 6) (hf : f < A.nF) (v : Int32) (hv : t = 1 → v ≠ 1 ∧ v ≠ 2) : xs_R (upd g (4 + 8 * t + f) v) (A.set t f v) S k := by
  have h1 := hR.set hs (t := t) (i := f) (Or.inl ⟨ht.1, ht.2, hf⟩) v hv
  have em : xs_m t f = 4 + 8 * t + f := by unfold xs_m; rw [if_pos ht.2]
  rw [em] at h1
  exact h1
theorem xs_r310 (hK : xs_K h A) (hR : xs_R (h 356) A S k) (hs : A.sz) {f : Nat} (hf : f < A.nF) : xs_tm h (mX6_isDone_b310 351 (nI f) h) 1 (A.set 2 f (A.a 2 f + 1)) S k := by
  have h8 := hs.2.1
  have g2 : h 356 (20 + f) = A.a 2 f := hR.getF (t := 2) (by omega) hf
  unfold mX6_isDone_b310 xo_let
  rw [xs_i 20 (by decide), if_pos (xs_ix (by omega) (by decide)), if_pos (xs_ix (by omega) (by decide)), nI_clamp (by omega)]
  dsimp only [Nat.reduceAdd]
  rw [g2]
  refine ⟨_, rfl, hK.st (A' := A.set 2 f (A.a 2 f + 1)) xs_ss.rf xs_off6, ?_, xs_off6⟩
  rw [xw_st_eq]
  exact hR.setF hs (t := 2) (by omega) hf _ (fun z => absurd z (by decide))
end RI
