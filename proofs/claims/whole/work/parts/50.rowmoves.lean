/-! the reference's moves -/
def xs_tm {β : Type} (h : xw_M) (o : Option (xw_M × β)) (r : β) (A' : xs_A) (S : Nat → Nat) (k : Nat) : Prop := ∃ h', o = some (h', r) ∧ xs_K h' A' ∧ xs_R (h' 356) A' S k ∧ xs_off (fun c => c = 356) h h'
theorem xs_off6 {h : xw_M} {j : Nat} {v : Int32} : xs_off (fun c => c = 356) h (xw_st h 356 j v) := xs_off.st (P := fun c => c = 356) rfl
section RM
variable {h : xw_M} {A : xs_A} {S : Nat → Nat} {k : Nat}
theorem xs_K.st (hK : xs_K h A) {A' : xs_A} (ss : xs_ss A A') {h' : xw_M} (ho : xs_off (fun c => c = 356) h h') : xs_K h' A' := by
  obtain ⟨k1, k2, k3, k4⟩ := hK
  obtain ⟨s1, s2, s3, s4, s5, s6⟩ := ss
  unfold xs_K
  rw [s1, s2, s3, s4, s5, s6, ho 351 (by decide), ho 352 (by decide), ho 353 (by decide), ho 354 (by decide), ho 355 (by decide)]
  exact ⟨k1, k2, k3, k4⟩
theorem xs_i (a : Nat) {b : Nat} {x : Int32} (hx : x = nI a) : x + nI b = nI (a + b) := by rw [hx, nI_add]
theorem xs_R.getF {g : Nat → Int32} (hR : xs_R g A S k) {t f : Nat} (ht : 1 ≤ t ∧ t ≤ 6) (hf : f < A.nF) : g (4 + 8 * t + f) = A.a t f := by
  have h1 := hR.1 t f (Or.inl ⟨ht.1, ht.2, hf⟩)
  unfold xs_m at h1
  rw [if_pos ht.2] at h1
  exact h1
theorem xs_rReady (hK : xs_K h A) (hR : xs_R (h 356) A S k) (hs : A.sz) {f : Nat} (hf : f < A.nF) (hl : (A.ls 0).length < 8) : xs_tm h (mX6_ready 351 (nI f) h) () (A.ready f) S k := by
  have h8 := hs.2.1
  have R1 := hR.set hs (t := 1) (i := f) (Or.inl ⟨by omega, by omega, hf⟩) 0 (fun _ => by decide)
  have em : xs_m 1 f = 12 + f := by unfold xs_m; rw [if_pos (by omega)]
  rw [em] at R1
  have q := (R1.2.1 0 (Or.inl rfl)).2.1
  have R2 := R1.add (n := 0) hs (Or.inl rfl) hl (nI f)
  unfold mX6_ready xo_let
  rw [xs_i 12 (by decide), if_pos (xs_ix (by omega) (by decide)), nI_clamp (by omega)]
  dsimp only [Nat.reduceAdd]
  rw [xw_st_eq]
  have q : upd (h 356) (12 + f) 0 3 = nI (A.ls 0).length := q
  rw [show Int32.toNatClampNeg 3 = 3 from by decide, q, xs_i 4 (by decide), if_pos (xs_ix (by omega) (by decide)), nI_clamp (by omega), xw_st_eq, xw_st_eq, xs_upd_ne (by omega), q, nI_1]
  refine ⟨_, rfl, ?_, ?_, (xs_off6.tr xs_off6).tr xs_off6⟩
  · exact hK.st (A' := A.ready f) xs_ss.rf ((xs_off6.tr xs_off6).tr xs_off6)
  · rw [xw_st_eq, xw_st_eq, xw_st_eq]
    exact R2
/-- whether fiber f waits so -/
theorem xs_rWaits (hK : xs_K h A) (hR : xs_R (h 356) A S k) (hs : A.sz) {f : Nat} (hf : f < A.nF) {s x : Int32} (hp : A.a 1 f = s → A.a 2 f = nI (A.pl f) ∧ A.pl f < A.sc f) : mX6_waits 351 (nI f) s x h = some (h, if A.a 1 f = s ∧ A.on f (A.pl f) = x then 1 else 0) := by
  have h8 := hs.2.1
  have h12 := hs.2.2 f hf
  unfold mX6_waits
  rw [xs_i 12 (by decide), if_pos (xs_ix (by omega) (by decide)), nI_clamp (by omega)]
  dsimp only [Nat.reduceAdd]
  have g1 : h 356 (12 + f) = A.a 1 f := hR.getF (t := 1) (by omega) hf
  have g2 : h 356 (20 + f) = A.a 2 f := hR.getF (t := 2) (by omega) hf
  by_cases e : A.a 1 f = s
  · obtain ⟨p1, p2⟩ := hp e
    have em : (12 : Int32) * nI f + nI (A.pl f) = nI (12 * f + A.pl f) := by
      rw [show (12 : Int32) * nI f = nI (12 * f) from (Int32.ofNat_mul 12 f).symm, nI_add]
    rw [if_pos (g1.trans e), xs_i 20 (by decide), if_pos (xs_ix (by omega) (by decide)), nI_clamp (by omega), g2, p1, em, if_pos (xs_ix (by omega) (by decide)), nI_clamp (by omega)]
    have go := (hK.2.2.2 f (A.pl f) hf p2).2.1
    by_cases eo : A.on f (A.pl f) = x
    · rw [if_pos (go.trans eo), if_pos ⟨e, eo⟩]
    · rw [if_neg (fun z => eo (go.symm.trans z)), if_neg (fun z => eo z.2)]
  · rw [if_neg (fun z => e (g1.symm.trans z)), if_neg (fun z => e z.1)]
end RM
