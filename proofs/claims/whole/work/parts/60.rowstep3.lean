section RK
variable {h : xw_M} {A : xs_A} {S : Nat → Nat} {k r : Nat} {d0 : Int32}
/-- the place is raised first -/
theorem xs_rUp (hK : xs_K h A) (hR : xs_R (h 356) (A.set 4 r d0) S k) (w : xs_W A r) (hf : r < A.nF) (h0 : A.a 1 r = 0) (hp : A.pl r < A.sc r) : xs_K (xw_st h 356 (20 + r) (A.a 2 r + 1)) ((A.set 4 r d0).set 2 r (A.a 2 r + 1)) ∧ xs_R (xw_st h 356 (20 + r) (A.a 2 r + 1) 356) ((A.set 4 r d0).set 2 r (A.a 2 r + 1)) S k ∧ xs_W ((A.set 4 r d0).set 2 r (A.a 2 r + 1)) r := by
  refine ⟨hK.st (A' := (A.set 4 r d0).set 2 r (A.a 2 r + 1)) xs_ss.rf xs_off6, ?_, ?_⟩
  · rw [xw_st_eq]
    exact hR.setF w.1 (t := 2) (by omega) hf _ (fun z => absurd z (by decide))
  · rw [(w.pl hf).1, nI_1]
    have w1 : xs_W (A.set 4 r d0) r := w.scal (by decide)
    exact w1.plc hf (show A.a 1 r ≠ 1 ∧ A.a 1 r ≠ 2 ∧ A.a 1 r ≠ 4 by rw [h0]; decide) (show A.pl r + 1 ≤ A.sc r by omega)
theorem xs_put_a {c : Nat} {v : Int32} {t i : Nat} (ht : t ≠ 1) : (A.put c v).a t i = A.a t i := xs_wake_a ht
/-- a move with the late count left out -/
theorem xs_move4 {P : xs_A} : (P.move r).set 4 r d0 = (P.set 4 r d0).set 2 r (P.a 2 r + 1) := by
  unfold xs_A.move
  rw [xs_set_set, xs_set_sw (fun z => absurd z.1 (by decide))]
theorem xs_rSendA (hK : xs_K h A) (hR : xs_R (h 356) (A.set 4 r d0) S k) (w : xs_W A r) (hk : k < 2 ^ 31) (hf : r < A.nF) (h0 : A.a 1 r = 0) (hp : A.pl r < A.sc r) {c : Nat} (hc : c < A.nC) (v : Int32) (hn : ¬ A.a 8 c ≤ nI (A.ls (1 + c)).length) : ∃ h', mX6_send 351 (nI c) v (xw_st h 356 (20 + r) (A.a 2 r + 1)) = some (h', ()) ∧ xs_R (h' 356) (((A.put c v).move r).set 4 r d0) S k ∧ xs_off (fun c => c = 356) h h' := by
  obtain ⟨K1, R1, w1⟩ := xs_rUp hK hR w hf h0 hp
  have h01 : A.a 1 r ≠ 1 ∧ A.a 1 r ≠ 2 := by rw [h0]; decide
  have e8 : ((A.set 4 r d0).set 2 r (A.a 2 r + 1)).a 8 c = A.a 8 c := (xs_set_ne (fun z => absurd z.1 (by decide))).trans (xs_set_ne (fun z => absurd z.1 (by decide)))
  obtain ⟨h2, e2, K2, R2, o2⟩ := xs_rSend K1 R1 w1 hk (c := c) hc v (by rw [e8]; exact hn) (fun _ => w.room hf h01 (Or.inl rfl))
  refine ⟨h2, e2, ?_, xs_off6.tr o2⟩
  rw [xs_set_put (by decide), xs_set_put (by decide)] at R2
  rw [xs_move4, xs_put_a (by decide)]
  exact R2
theorem xs_rTakeA (hK : xs_K h A) (hR : xs_R (h 356) (A.set 4 r d0) S k) (w : xs_W A r) (hk : k < 2 ^ 31) (hf : r < A.nF) (h0 : A.a 1 r = 0) (hp : A.pl r < A.sc r) {c : Nat} (hc : c < A.nC) {v : Int32} {l : List Int32} (he : A.ls (1 + c) = v :: l) : ∃ h', mX6_take 351 (nI c) (xw_st h 356 (20 + r) (A.a 2 r + 1)) = some (h', v) ∧ xs_K h' A ∧ xs_R (h' 356) ((((A.setL (1 + c) l).wake (5 + c)).set 4 r d0).set 2 r (A.a 2 r + 1)) S k ∧ xs_off (fun c => c = 356) h h' := by
  obtain ⟨K1, R1, w1⟩ := xs_rUp hK hR w hf h0 hp
  have h01 : A.a 1 r ≠ 1 ∧ A.a 1 r ≠ 2 := by rw [h0]; decide
  obtain ⟨h2, e2, K2, R2, o2⟩ := xs_rTake K1 R1 w1 hk (c := c) hc (v := v) (l := l) he (fun _ => w.room hf h01 (Or.inl rfl))
  refine ⟨h2, e2, hK.st xs_ss.rf (xs_off6.tr o2), ?_, xs_off6.tr o2⟩
  have e : ((((A.set 4 r d0).set 2 r (A.a 2 r + 1)).setL (1 + c) l).wake (5 + c)) = (((A.setL (1 + c) l).wake (5 + c)).set 4 r d0).set 2 r (A.a 2 r + 1) := by
    rw [xs_set_setL, xs_set_setL, xs_set_wake (by decide), xs_set_wake (by decide)]
  rw [e] at R2
  exact R2
end RK
