def xs_tB (h : xw_M) (o : Option (xw_M × Int32)) (A A' : xs_A) (r : Nat) (d0 : Int32) (k : Nat) : Prop := ∃ (h' : xw_M) (b : Int32) (S' : Nat → Nat) (k' : Nat), o = some (h', b) ∧ xs_K h' A' ∧ xs_R (h' 356) (A'.set 4 r d0) S' k' ∧ xs_off (fun c => c = 356) h h' ∧ k' ≤ k + 1 ∧ (A'.a 1 r = 0 → k' = k) ∧ A'.a 4 r = A.a 4 r + b ∧ (b = 0 ∨ b = 1) ∧ (b = 0 → A'.a 1 r ≠ 0)
section RL9
variable {h : xw_M} {A : xs_A} {S : Nat → Nat} {k r : Nat} {d0 : Int32}
theorem xs_rWaitB (hK : xs_K h A) (hR : xs_R (h 356) (A.set 4 r d0) S k) (w : xs_W A r) (hf : r < A.nF) (h0 : A.a 1 r = 0) {s : Int32} (hs : s ≠ 0) {n : Nat} (hn : A.fL n) (hn0 : n ≠ 0) : xs_tB h ((mX6_waitIn 351 (nI r) s h).bind fun r3 => some (r3.1, (0 : Int32))) A (A.wait r s n) r d0 k := by
  obtain ⟨h1, e1, K1, R1, o1⟩ := xs_rWaitA hK hR w hf h0 s hn hn0
  rw [e1, Option.bind_some]
  have e0 : (A.wait r s n).a 1 r = s := xs_set_eq
  refine ⟨h1, 0, _, k + 1, rfl, K1, R1, o1, Nat.le_refl _, fun z => absurd (e0.symm.trans z) hs, ?_, Or.inl rfl, fun _ z => hs (e0.symm.trans z)⟩
  rw [show (A.wait r s n).a 4 r = A.a 4 r from xs_set_ne (t := 1) (t' := 4) (i := r) (i' := r) (v := s) (fun z => absurd z.1 (by decide)), Int32.add_zero]
theorem xs_r72 (hK : xs_K h A) (hR : xs_R (h 356) (A.set 4 r d0) S k) (w : xs_W A r) (hk : k < 2 ^ 31) (hf : r < A.nF) (h0 : A.a 1 r = 0) (hp : A.pl r < A.sc r) {c : Nat} (hc : c < A.nC) {v : Int32} (hv : (A.kd r (A.pl r) = 0 ∧ v = A.tw r (A.pl r)) ∨ (A.kd r (A.pl r) = 6 ∧ v = A.a 3 r)) : xs_tB h (mX6_isDone_b72 351 (nI r) (nI (12 * r + A.pl r)) (nI c) h) A (A.send r c v) r d0 k := by
  have h8 := w.1.2.1
  have s1 := w.1.1
  have hpl := w.pl hf
  have gl : h (351 + 5) (168 + c) = nI (A.ls (1 + c)).length := by
    have := (hR.2.1 (1 + c) (Or.inr ⟨by omega, by omega⟩)).2.1
    have em : xs_mn (1 + c) = 168 + c := by unfold xs_mn; rw [if_neg (by omega)]; omega
    rw [em] at this
    exact this
  have gp : h (351 + 5) (164 + c) = A.a 8 c := by
    have := hR.1 8 c (Or.inr (Or.inl ⟨rfl, by omega⟩))
    exact this
  unfold mX6_isDone_b72 xs_A.send
  rw [xs_i 168 (by decide), if_pos (xs_ix (by omega) (by decide)), xs_i 164 (by decide), if_pos (xs_ix (by omega) (by decide)), nI_clamp (by omega), nI_clamp (by omega)]
  by_cases hn : A.a 8 c ≤ nI (A.ls (1 + c)).length
  · rw [if_pos hn, if_neg (by rw [gl, gp]; exact Int32.not_lt.mpr hn)]
    exact xs_rWaitB hK hR w hf h0 (by decide) (xs_fL hc).1 (by omega)
  · rw [if_neg hn, if_pos (by rw [gl, gp]; exact Int32.not_le.mp hn), xs_i 20 (by decide), if_pos (xs_ix (by omega) (by decide)), if_pos (xs_ix (by omega) (by decide)), nI_clamp (by omega)]
    have g2 : h (351 + 5) (20 + r) = A.a 2 r := hR.getF (A := A.set 4 r d0) (t := 2) (by omega) hf
    unfold xo_let
    dsimp only
    rw [g2, if_pos (xs_ix (i := 12 * r + A.pl r) (by omega) (by decide)), nI_clamp (n := 12 * r + A.pl r) (by omega)]
    obtain ⟨h2, e2, R2, o2⟩ := xs_rSendA hK hR w hk hf h0 hp hc v hn
    have fin : ∀ x : Int32, x = v → xs_tB h (mX6_isDone_b145 (xw_st h (351 + 5) (20 + r) (A.a 2 r + 1)) x (nI c) 351) A ((A.put c v).move r) r d0 k := fun x hx => by
      unfold mX6_isDone_b145
      rw [hx, show (351 + 5 : Nat) = 356 from rfl, e2, Option.bind_some]
      have h01 : A.a 1 r ≠ 1 ∧ A.a 1 r ≠ 2 := by rw [h0]; decide
      have ss := xs_ss_put (A := A) (c := c) (v := v)
      refine ⟨h2, 1, S, k, rfl, hK.st (A' := (A.put c v).move r) (xs_ss.tr ss xs_ss.rf) o2, R2, o2, Nat.le_succ k, fun _ => rfl, ?_, Or.inr rfl, fun z => absurd z (by decide)⟩
      rw [show ((A.put c v).move r).a 4 r = (A.put c v).a 4 r + 1 from xs_set_eq, xs_put_a (by decide)]
    have gK : xw_st h (351 + 5) (20 + r) (A.a 2 r + 1) (351 + 2) (12 * r + A.pl r) = A.kd r (A.pl r) := by
      rw [xw_st_ne _ _ _ _ (by decide)]
      exact (hK.2.2.2 r (A.pl r) hf hp).1
    rcases hv with ⟨v1, v2⟩ | ⟨v1, v2⟩
    · rw [if_pos (gK.trans v1), if_pos (xs_ix (i := 12 * r + A.pl r) (by omega) (by decide))]
      refine fin _ ?_
      rw [xw_st_ne _ _ _ _ (by decide), v2]
      exact (hK.2.2.2 r (A.pl r) hf hp).2.2
    · rw [if_neg (fun z => by rw [gK, v1] at z; exact absurd z (by decide)), xs_i 28 (by decide), if_pos (xs_ix (by omega) (by decide)), nI_clamp (by omega)]
      refine fin _ ?_
      rw [show (351 + 5 : Nat) = 356 from rfl, xw_st_eq, xs_upd_ne (by omega), v2]
      exact hR.getF (A := A.set 4 r d0) (t := 3) (by omega) hf
end RL9
