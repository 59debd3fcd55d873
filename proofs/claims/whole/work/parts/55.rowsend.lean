/-! the reference sends -/
section RS
variable {h : xw_M} {A : xs_A} {S : Nat → Nat} {k r : Nat}
theorem xs_8c (c : Nat) : (172 : Int32) + 8 * nI c = nI (172 + 8 * c) := by
  rw [show (8 : Int32) * nI c = nI (8 * c) from (Int32.ofNat_mul 8 c).symm]
  exact xs_i 172 (by decide)
theorem xs_rSend (hK : xs_K h A) (hR : xs_R (h 356) A S k) (w : xs_W A r) (hk : k < 2 ^ 31) {c : Nat} (hc : c < A.nC) (v : Int32) (hn : ¬ A.a 8 c ≤ nI (A.ls (1 + c)).length) (hl : A.ls (9 + c) ≠ [] → (A.ls 0).length < 8) : xs_tm h (mX6_send 351 (nI c) v h) () (A.put c v) S k := by
  have s1 := w.1.1
  obtain ⟨f1, f2, f3⟩ := w.full hc
  have hlen : (A.ls (1 + c)).length < 8 := by
    have h9 : (A.ls (1 + c)).length < (A.a 8 c).toNatClampNeg := Classical.byContradiction fun z => hn (f1.mpr z)
    omega
  have hd : A.dL (1 + c) := Or.inr ⟨by omega, by omega⟩
  have R1 := hR.add w.1 hd hlen v
  have w1 : xs_W (A.setL (1 + c) (A.ls (1 + c) ++ [v])) r := w.drops hc (fun p hp he => by
    obtain ⟨p', p1, p2, p3, p4⟩ := w.2.2.2.2.1 c hc
    have e : p = p' := (nI_eq (by omega) (by omega)).mp (he.symm.trans p3)
    rw [p3] at hn
    rw [List.length_append, e]
    have : (A.ls (1 + c)).length ≠ p' := fun z => hn (by rw [z]; exact Int32.le_refl _)
    show (A.ls (1 + c)).length + 1 ≤ p'
    omega)
  have em : xs_mn (1 + c) = 168 + c := by unfold xs_mn; rw [if_neg (by omega)]; omega
  have eb : xs_mb (1 + c) = 172 + 8 * c := by unfold xs_mb; rw [if_neg (by omega)]; omega
  have q := (hR.2.1 (1 + c) hd).2.1
  rw [em, eb] at R1
  rw [em] at q
  unfold mX6_send xo_let
  rw [xs_i 168 (by decide), if_pos (xs_ix (by omega) (by decide)), nI_clamp (by omega), xs_8c]
  dsimp only [Nat.reduceAdd]
  rw [q, nI_add, if_pos (xs_ix (by omega) (by decide)), nI_clamp (by omega), if_pos (xs_ix (by omega) (by decide)), if_pos (xs_ix (by omega) (by decide))]
  have e2 : xw_st h 356 (172 + 8 * c + (A.ls (1 + c)).length) v 356 (168 + c) = nI (A.ls (1 + c)).length := by rw [xw_st_eq, xs_upd_ne (by omega)]; exact q
  rw [e2, nI_1]
  have o1 : xs_off (fun c => c = 356) h (xw_st (xw_st h 356 (172 + 8 * c + (A.ls (1 + c)).length) v) 356 (168 + c) (nI ((A.ls (1 + c)).length + 1))) := xs_off6.tr xs_off6
  have K1 := hK.st (A' := A.setL (1 + c) (A.ls (1 + c) ++ [v])) xs_ss.rf o1
  obtain ⟨h3, e3, K3, R3, o3⟩ := xs_rWake (n := 9 + c) (s := 2) (x := nI c) K1 (by rw [xw_st_eq, xw_st_eq]; exact R1) w1 hk (xs_fL (A := A) hc).2 (by omega) (Or.inr (Or.inl rfl)) (w1.at9 hc) (fun z => by
    rw [xs_setL_ne (by omega)] at z ⊢
    exact hl z)
  rw [e3, Option.bind_some]
  exact ⟨h3, rfl, K3, R3, o1.tr o3⟩
end RS
