section RM9
variable {h : xw_M} {A : xs_A} {S : Nat → Nat} {k r : Nat} {d0 : Int32}
/-- a step that goes on: the place is raised at the end -/
theorem xs_rMoveB {P : xs_A} {h1 : xw_M} (hK : xs_K h1 P) (hR : xs_R (h1 356) (P.set 4 r d0) S k) (hs : P.sz) (hf : r < P.nF) (ho : xs_off (fun c => c = 356) h h1) (e4 : P.a 4 r = A.a 4 r) : xs_tB h (mX6_isDone_b310 351 (nI r) h1) A (P.move r) r d0 k := by
  obtain ⟨h2, e2, K2, R2, o2⟩ := xs_r310 (A := P.set 4 r d0) hK hR hs hf
  refine ⟨h2, 1, S, k, e2, K2, ?_, ho.tr o2, Nat.le_succ k, fun _ => rfl, ?_, Or.inr rfl, fun z => absurd z (by decide)⟩
  · rw [xs_move4]
    exact R2
  · rw [show (P.move r).a 4 r = P.a 4 r + 1 from xs_set_eq, e4]
theorem xs_rAct (hK : xs_K h A) (hR : xs_R (h 356) (A.set 4 r d0) S k) (w : xs_W A r) (hk : k < 2 ^ 31) (hf : r < A.nF) (h0 : A.a 1 r = 0) (hp : A.pl r < A.sc r) : xs_tB h (mX6_isDone 351 (nI r) h) A (A.act r) r d0 k := by
  have h8 := w.1.2.1
  have s1 := w.1.1
  have hpl := w.pl hf
  obtain ⟨t1, t2, t3, q, hq7, hk9⟩ := w.2.1 r (A.pl r) hf hp
  obtain ⟨gK, gO, gT⟩ := hK.2.2.2 r (A.pl r) hf hp
  have gK : h (351 + 2) (12 * r + A.pl r) = A.kd r (A.pl r) := gK
  have gO : h (351 + 3) (12 * r + A.pl r) = A.on r (A.pl r) := gO
  have gT : h (351 + 4) (12 * r + A.pl r) = A.tw r (A.pl r) := gT
  have g2 : h (351 + 5) (20 + r) = nI (A.pl r) := (hR.getF (A := A.set 4 r d0) (t := 2) (by omega) hf).trans hpl.1
  have em : (12 : Int32) * nI r + nI (A.pl r) = nI (12 * r + A.pl r) := by
    rw [show (12 : Int32) * nI r = nI (12 * r) from (Int32.ofNat_mul 12 r).symm, nI_add]
  have ne : ∀ v, A.kd r (A.pl r) ≠ v → ¬ h (351 + 2) (12 * r + A.pl r) = v := fun v hv z => hv (gK.symm.trans z)
  unfold mX6_isDone
  rw [xs_i 20 (by decide), if_pos (xs_ix (i := 20 + r) (by omega) (by decide)), nI_clamp (n := 20 + r) (by omega), g2, em, if_pos (xs_ix (i := 12 * r + A.pl r) (by omega) (by decide)), if_pos (xs_ix (i := 12 * r + A.pl r) (by omega) (by decide)), nI_clamp (n := 12 * r + A.pl r) (by omega)]
  rcases (show q = 0 ∨ q = 1 ∨ q = 2 ∨ q = 3 ∨ q = 4 ∨ q = 5 ∨ q = 6 by omega) with rfl | rfl | rfl | rfl | rfl | rfl | rfl
  · have hk0 : A.kd r (A.pl r) = 0 := hk9
    obtain ⟨c, hc, hoc⟩ := t1 (Or.inl hk0)
    have ea : A.act r = A.send r c (A.tw r (A.pl r)) := by unfold xs_A.act; rw [if_pos hk0, hoc, nI_clamp (by omega)]
    rw [if_pos (gK.trans hk0), gO, hoc, ea]
    exact xs_r72 hK hR w hk hf h0 hp hc (Or.inl ⟨hk0, rfl⟩)
  · have hk0 : A.kd r (A.pl r) = 1 := hk9
    sorry
  · have hk0 : A.kd r (A.pl r) = 2 := hk9
    sorry
  · have hk0 : A.kd r (A.pl r) = 3 := hk9
    have ea : A.act r = A.move r := by unfold xs_A.act; rw [if_neg (by rw [hk0]; decide), if_neg (by rw [hk0]; decide), if_neg (by rw [hk0]; decide), if_pos hk0]
    rw [if_neg (ne 0 (by rw [hk0]; decide)), if_neg (ne 1 (by rw [hk0]; decide)), if_neg (ne 2 (by rw [hk0]; decide)), if_pos (gK.trans hk0), ea]
    exact xs_rMoveB hK hR w.1 hf xs_off.rf rfl
  · have hk0 : A.kd r (A.pl r) = 4 := hk9
    sorry
  · have hk0 : A.kd r (A.pl r) = 5 := hk9
    sorry
  · have hk0 : A.kd r (A.pl r) = 6 := hk9
    obtain ⟨c, hc, hoc⟩ := t1 (Or.inr (Or.inr hk0))
    have ea : A.act r = A.send r c (A.a 3 r) := by unfold xs_A.act; rw [if_neg (by rw [hk0]; decide), if_neg (by rw [hk0]; decide), if_neg (by rw [hk0]; decide), if_neg (by rw [hk0]; decide), if_neg (by rw [hk0]; decide), if_neg (by rw [hk0]; decide), if_pos hk0, hoc, nI_clamp (by omega)]
    rw [if_neg (ne 0 (by rw [hk0]; decide)), if_neg (ne 1 (by rw [hk0]; decide)), if_neg (ne 2 (by rw [hk0]; decide)), if_neg (ne 3 (by rw [hk0]; decide)), if_neg (ne 4 (by rw [hk0]; decide)), if_neg (ne 5 (by rw [hk0]; decide)), if_pos (gK.trans hk0), gO, hoc, ea]
    exact xs_r72 hK hR w hk hf h0 hp hc (Or.inr ⟨hk0, rfl⟩)
end RM9
