/-- what the reference's step is to do -/
def xs_tA (h : xw_M) (o : Option (xw_M × Int32)) (A : xs_A) (r : Nat) (d0 : Int32) (k : Nat) : Prop := ∃ (h' : xw_M) (b : Int32) (S' : Nat → Nat) (k' : Nat), o = some (h', b) ∧ xs_K h' (A.act r) ∧ xs_R (h' 356) ((A.act r).set 4 r d0) S' k' ∧ xs_off (fun c => c = 356) h h' ∧ k' ≤ k + 1 ∧ ((A.act r).a 1 r = 0 → k' = k) ∧ (A.act r).a 4 r = A.a 4 r + b ∧ (b = 0 ∨ b = 1) ∧ (b = 0 → (A.act r).a 1 r ≠ 0)
section RJ
variable {h : xw_M} {A : xs_A} {S : Nat → Nat} {k r : Nat} {d0 : Int32}
/-- a fiber at work waits: the row and the lists -/
theorem xs_rWaitL (hK : xs_K h A) (hR : xs_R (h 356) (A.set 4 r d0) S k) (w : xs_W A r) (hf : r < A.nF) (h0 : A.a 1 r = 0) (s : Int32) : ∃ h', mX6_waitIn 351 (nI r) s h = some (h', ()) ∧ xs_K h' (A.set 1 r s) ∧ xs_R (h' 356) ((A.set 1 r s).set 4 r d0) (fun q => if q = r then k else S q) (k + 1) ∧ xs_off (fun c => c = 356) h h' := by
  obtain ⟨h1, e1, g1, o1⟩ := xs_rStamp (A := A.set 4 r d0) hK hR w.1 hf s
  have R1 := hR.stamp w.1 hf s (fun n hn hn0 z => by
    rcases xs_at_st (((w.2.2.2.2.2 n hn).2 r hf).mp z) with ⟨z1, _⟩ | ⟨_, z2⟩
    · exact hn0 z1
    · rw [h0] at z2; exact absurd z2 (by decide)) (fun n hn => w.fibs hn)
  refine ⟨h1, e1, hK.st (A' := A.set 1 r s) xs_ss.rf o1, ?_, o1⟩
  rw [g1, xs_set_sw (t := 1) (t' := 4) (fun z => absurd z.1 (by decide))]
  exact R1
theorem xs_rWaitA (hK : xs_K h A) (hR : xs_R (h 356) (A.set 4 r d0) S k) (w : xs_W A r) (hf : r < A.nF) (h0 : A.a 1 r = 0) (s : Int32) {n : Nat} (hn : A.fL n) (hn0 : n ≠ 0) : ∃ h', mX6_waitIn 351 (nI r) s h = some (h', ()) ∧ xs_K h' (A.wait r s n) ∧ xs_R (h' 356) ((A.wait r s n).set 4 r d0) (fun q => if q = r then k else S q) (k + 1) ∧ xs_off (fun c => c = 356) h h' := by
  have h8 := w.1.2.1
  obtain ⟨h1, e1, K1, R1, o1⟩ := xs_rWaitL hK hR w hf h0 s
  refine ⟨h1, e1, K1, ?_, o1⟩
  refine R1.addW w.1 hn hn0 hf (fun x hx => ?_)
  have hx : x ∈ A.ls n := hx
  obtain ⟨g, hg, rfl⟩ := w.fibs hn x hx
  have hat := ((w.2.2.2.2.2 n hn).2 g hg).mp hx
  have hst : A.a 1 g = 1 ∨ A.a 1 g = 2 := by
    rcases xs_at_st hat with ⟨z1, _⟩ | ⟨_, z2⟩
    · exact absurd z1 hn0
    · exact z2
  have hgr : g ≠ r := fun e => by rw [e, h0] at hst; exact absurd hst (by decide)
  have := hR.2.2.2.2.1 g hg (by
    rw [show (A.set 4 r d0).a 1 g = A.a 1 g from xs_set_ne (t := 4) (t' := 1) (i := r) (i' := g) (v := d0) (fun z => absurd z.1 (by decide))]
    exact hst)
  rw [nI_clamp (by omega), if_neg hgr, if_pos rfl]
  exact this
end RJ
