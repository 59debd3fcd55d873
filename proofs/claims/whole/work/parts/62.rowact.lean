section RM9
variable {h : xw_M} {A : xs_A} {S : Nat → Nat} {k r : Nat} {d0 : Int32}
/-- a step that goes on: the place is raised at the end -/
theorem xs_rMoveB {P : xs_A} {h1 : xw_M} (hK : xs_K h1 P) (hR : xs_R (h1 356) (P.set 4 r d0) S k) (hs : P.sz) (hf : r < P.nF) (ho : xs_off (fun c => c = 356) h h1) (e4 : P.a 4 r = A.a 4 r) : xs_tB h (mX6_isDone_b310 351 (nI r) h1) A (P.move r) r d0 k := by
  obtain ⟨h2, e2, K2, R2, o2⟩ := xs_r310 (A := P.set 4 r d0) hK hR hs hf
  refine ⟨h2, 1, S, k, e2, K2, ?_, ho.tr o2, Nat.le_succ k, fun _ => rfl, ?_, Or.inr rfl, fun z => absurd z (by decide)⟩
  · rw [xs_move4]
    exact R2
  · rw [show (P.move r).a 4 r = P.a 4 r + 1 from xs_set_eq, e4]
theorem xs_rAct (hK : xs_K h A) (hR : xs_R (h 356) (A.set 4 r d0) S k) (w : xs_W A r) (hk : k < 2 ^ 31) (hf : r < A.nF) (h0 : A.a 1 r = 0) (hp : A.pl r < A.sc r) : xs_tB h (mX6_isDone 351 (nI r) h) A (A.act r) r d0 k := by
  have h8 := w.1.2.1
  have s1 := w.1.1
  have hpl := w.pl hf
  obtain ⟨t1, t2, t3, q, hq7, hk9⟩ := w.2.1 r (A.pl r) hf hp
  obtain ⟨gK, gO, gT⟩ := hK.2.2.2 r (A.pl r) hf hp
  have gK : h (351 + 2) (12 * r + A.pl r) = A.kd r (A.pl r) := gK
  have gO : h (351 + 3) (12 * r + A.pl r) = A.on r (A.pl r) := gO
  have gT : h (351 + 4) (12 * r + A.pl r) = A.tw r (A.pl r) := gT
  have g2 : h (351 + 5) (20 + r) = nI (A.pl r) := (hR.getF (A := A.set 4 r d0) (t := 2) (by omega) hf).trans hpl.1
  have em : (12 : Int32) * nI r + nI (A.pl r) = nI (12 * r + A.pl r) := by
    rw [show (12 : Int32) * nI r = nI (12 * r) from (Int32.ofNat_mul 12 r).symm, nI_add]
  have ne : ∀ v, A.kd r (A.pl r) ≠ v → ¬ h (351 + 2) (12 * r + A.pl r) = v := fun v hv z => hv (gK.symm.trans z)
  unfold mX6_isDone
  rw [xs_i 20 (by decide), if_pos (xs_ix (i := 20 + r) (by omega) (by decide)), nI_clamp (n := 20 + r) (by omega), g2, em, if_pos (xs_ix (i := 12 * r + A.pl r) (by omega) (by decide)), if_pos (xs_ix (i := 12 * r + A.pl r) (by omega) (by decide)), nI_clamp (n := 12 * r + A.pl r) (by omega)]
  rcases (show q = 0 ∨ q = 1 ∨ q = 2 ∨ q = 3 ∨ q = 4 ∨ q = 5 ∨ q = 6 by omega) with rfl | rfl | rfl | rfl | rfl | rfl | rfl
  · have hk0 : A.kd r (A.pl r) = 0 := hk9
    obtain ⟨c, hc, hoc⟩ := t1 (Or.inl hk0)
    have ea : A.act r = A.send r c (A.tw r (A.pl r)) := by unfold xs_A.act; rw [if_pos hk0, hoc, nI_clamp (by omega)]
    rw [if_pos (gK.trans hk0), gO, hoc, ea]
    exact xs_r72 hK hR w hk hf h0 hp hc (Or.inl ⟨hk0, rfl⟩)
  · have hk0 : A.kd r (A.pl r) = 1 := hk9
    obtain ⟨c, hc, hoc⟩ := t1 (Or.inr (Or.inl hk0))
    have ea : A.act r = A.take r c := by unfold xs_A.act; rw [if_neg (by rw [hk0]; decide), if_pos hk0, hoc, nI_clamp (by omega)]
    have gl : h (351 + 5) (168 + c) = nI (A.ls (1 + c)).length := by
      have := (hR.2.1 (1 + c) (Or.inr ⟨by omega, by omega⟩)).2.1
      have em : xs_mn (1 + c) = 168 + c := by unfold xs_mn; rw [if_neg (by omega)]; omega
      rw [em] at this
      exact this
    have l8 := (w.full hc).2.1
    rw [if_neg (ne 0 (by rw [hk0]; decide)), if_pos (gK.trans hk0), gO, hoc, xs_i 168 (by decide), if_pos (xs_ix (i := 168 + c) (by omega) (by decide)), nI_clamp (n := 168 + c) (by omega), ea]
    unfold xs_A.take
    cases he : A.ls (1 + c) with
    | nil =>
      rw [if_pos (by rw [gl, he]; decide)]
      exact xs_rWaitB hK hR w hf h0 (by decide) (xs_fL hc).2 (by omega)
    | cons v l =>
      rw [he] at gl l8
      rw [if_neg (by rw [gl]; exact nI_ne0 (n := (v :: l).length) (Nat.succ_pos _) (by omega)), if_pos (xs_ix (i := 20 + r) (by omega) (by decide)), if_pos (xs_ix (i := 20 + r) (by omega) (by decide)), ← hpl.1]
      unfold xo_let
      dsimp only
      rw [xs_i 28 (by decide), if_pos (xs_ix (i := 28 + r) (by omega) (by decide)), nI_clamp (n := 28 + r) (by omega), show (351 + 5 : Nat) = 356 from rfl]
      obtain ⟨h2, e2, K2, R2, o2⟩ := xs_rTakeA hK hR w hk hf h0 hp hc he
      rw [e2, Option.bind_some, if_pos (xs_ix (i := 28 + r) (by omega) (by decide))]
      have g3 : xw_st h 356 (20 + r) (A.a 2 r + 1) 356 (28 + r) = A.a 3 r := by
        rw [xw_st_eq, xs_upd_ne (by omega)]
        exact hR.getF (A := A.set 4 r d0) (t := 3) (by omega) hf
      rw [g3]
      have ss : xs_ss A ((A.setL (1 + c) l).wake (5 + c)) := xs_ss.tr (A1 := A.setL (1 + c) l) xs_ss.rf xs_ss_wake
      generalize hW : (A.setL (1 + c) l).wake (5 + c) = W at R2 ss
      have eW : ((A.setL (1 + c) l).set 3 r (A.a 3 r + v)).wake (5 + c) = W.set 3 r (A.a 3 r + v) := by rw [xs_set_wake (by decide), hW]
      have zs : W.sz := by unfold xs_A.sz; rw [ss.1, ss.2.1, ss.2.2.1]; exact w.1
      have R3 := R2.setF zs (t := 3) (f := r) (by omega) (by show r < W.nF; rw [ss.2.1]; exact hf) (A.a 3 r + v) (fun z => absurd z (by decide))
      have a2W : W.a 2 r = A.a 2 r := by rw [← hW]; exact xs_wake_a (by decide)
      have a4W : W.a 4 r = A.a 4 r := by rw [← hW]; exact xs_wake_a (by decide)
      have o3 : xs_off (fun c => c = 356) h (xw_st h2 356 (28 + r) (A.a 3 r + v)) := o2.tr xs_off6
      show xs_tB h (some (xw_st h2 356 (28 + r) (A.a 3 r + v), (1 : Int32))) A ((((A.setL (1 + c) l).set 3 r (A.a 3 r + v)).wake (5 + c)).move r) r d0 k
      rw [eW]
      refine ⟨_, 1, S, k, rfl, hK.st (A' := (W.set 3 r (A.a 3 r + v)).move r) ss o3, ?_, o3, Nat.le_succ k, fun _ => rfl, ?_, Or.inr rfl, fun z => absurd z (by decide)⟩
      · rw [xw_st_eq, xs_move4, xs_set_ne (t := 3) (t' := 2) (fun z => absurd z.1 (by decide)), a2W, xs_set_sw (t := 3) (t' := 4) (fun z => absurd z.1 (by decide)), xs_set_sw (t := 3) (t' := 2) (fun z => absurd z.1 (by decide))]
        exact R3
      · rw [show ((W.set 3 r (A.a 3 r + v)).move r).a 4 r = (W.set 3 r (A.a 3 r + v)).a 4 r + 1 from xs_set_eq, xs_set_ne (t := 3) (t' := 4) (fun z => absurd z.1 (by decide)), a4W]
  · have hk0 : A.kd r (A.pl r) = 2 := hk9
    have ea : A.act r = ((A.set 6 r (A.a 9 0 + A.on r (A.pl r))).set 1 r 3).move r := by unfold xs_A.act; rw [if_neg (by rw [hk0]; decide), if_neg (by rw [hk0]; decide), if_pos hk0]
    rw [if_neg (ne 0 (by rw [hk0]; decide)), if_neg (ne 1 (by rw [hk0]; decide)), if_pos (gK.trans hk0), gO, xs_i 12 (by decide), if_pos (xs_ix (i := 12 + r) (by omega) (by decide)), nI_clamp (n := 12 + r) (by omega), ea]
    unfold xo_let
    dsimp only
    rw [xs_i 52 (by decide), if_pos (xs_ix (i := 52 + r) (by omega) (by decide)), nI_clamp (n := 52 + r) (by omega), show (351 + 5 : Nat) = 356 from rfl]
    have g9 : xw_st h 356 (12 + r) 3 356 (Int32.toNatClampNeg 0) = A.a 9 0 := by
      rw [xw_st_eq, show Int32.toNatClampNeg 0 = 0 from by decide, xs_upd_ne (by omega)]
      exact hR.1 9 0 (Or.inr (Or.inr (Or.inl ⟨rfl, rfl⟩)))
    rw [g9]
    have R1 := hR.setF w.1 (t := 1) (f := r) (by omega) hf 3 (fun _ => by decide)
    have R2 := R1.setF w.1 (t := 6) (f := r) (by omega) hf (A.a 9 0 + A.on r (A.pl r)) (fun z => absurd z (by decide))
    refine xs_rMoveB (P := (A.set 6 r (A.a 9 0 + A.on r (A.pl r))).set 1 r 3) (S := S) (hK.st (A' := (A.set 6 r (A.a 9 0 + A.on r (A.pl r))).set 1 r 3) xs_ss.rf (xs_off6.tr xs_off6)) ?_ w.1 hf (xs_off6.tr xs_off6) ?_
    · rw [xw_st_eq, xw_st_eq, xs_set_sw (t := 6) (t' := 1) (fun z => absurd z.1 (by decide)), xs_set_sw (t := 6) (t' := 4) (fun z => absurd z.1 (by decide)), xs_set_sw (t := 1) (t' := 4) (fun z => absurd z.1 (by decide))]
      exact R2
    · rw [xs_set_ne (t := 1) (t' := 4) (fun z => absurd z.1 (by decide)), xs_set_ne (t := 6) (t' := 4) (fun z => absurd z.1 (by decide))]
  · have hk0 : A.kd r (A.pl r) = 3 := hk9
    have ea : A.act r = A.move r := by unfold xs_A.act; rw [if_neg (by rw [hk0]; decide), if_neg (by rw [hk0]; decide), if_neg (by rw [hk0]; decide), if_pos hk0]
    rw [if_neg (ne 0 (by rw [hk0]; decide)), if_neg (ne 1 (by rw [hk0]; decide)), if_neg (ne 2 (by rw [hk0]; decide)), if_pos (gK.trans hk0), ea]
    exact xs_rMoveB hK hR w.1 hf xs_off.rf rfl
  · have hk0 : A.kd r (A.pl r) = 4 := hk9
    obtain ⟨g, hg, hog⟩ := t2 hk0
    have ea : A.act r = A.join r g := by unfold xs_A.act; rw [if_neg (by rw [hk0]; decide), if_neg (by rw [hk0]; decide), if_neg (by rw [hk0]; decide), if_neg (by rw [hk0]; decide), if_pos hk0, hog, nI_clamp (by omega)]
    have g1 : h (351 + 5) (12 + g) = A.a 1 g := (hR.getF (A := A.set 4 r d0) (t := 1) (by omega) hg).trans (xs_set_ne (t := 4) (t' := 1) (fun z => absurd z.1 (by decide)))
    rw [if_neg (ne 0 (by rw [hk0]; decide)), if_neg (ne 1 (by rw [hk0]; decide)), if_neg (ne 2 (by rw [hk0]; decide)), if_neg (ne 3 (by rw [hk0]; decide)), if_pos (gK.trans hk0), gO, hog, xs_i 12 (by decide), if_pos (xs_ix (i := 12 + g) (by omega) (by decide)), nI_clamp (n := 12 + g) (by omega), ea]
    unfold xs_A.join
    by_cases e5 : A.a 1 g = 5
    · rw [if_pos (g1.trans e5), if_pos e5]
      exact xs_rMoveB hK hR w.1 hf xs_off.rf rfl
    · rw [if_neg (fun z => e5 (g1.symm.trans z)), if_neg e5]
      obtain ⟨h1, e1, K1, R1, o1⟩ := xs_rWaitL hK hR w hf h0 4
      rw [e1, Option.bind_some]
      have e0 : (A.set 1 r 4).a 1 r = 4 := xs_set_eq
      refine ⟨h1, 0, _, k + 1, rfl, K1, R1, o1, Nat.le_refl _, fun z => absurd (e0.symm.trans z) (by decide), ?_, Or.inl rfl, fun _ z => absurd (e0.symm.trans z) (by decide)⟩
      rw [xs_set_ne (t := 1) (t' := 4) (fun z => absurd z.1 (by decide)), Int32.add_zero]
  · have hk0 : A.kd r (A.pl r) = 5 := hk9
    have ea : A.act r = A.back r (A.pl r) := by unfold xs_A.act; rw [if_neg (by rw [hk0]; decide), if_neg (by rw [hk0]; decide), if_neg (by rw [hk0]; decide), if_neg (by rw [hk0]; decide), if_neg (by rw [hk0]; decide), if_pos hk0]
    have hd : A.dR (20 + r) (A.pl r) := Or.inr (Or.inr (Or.inr (Or.inr (Or.inl ⟨by omega, by omega, by omega⟩))))
    have emm : xs_m (20 + r) (A.pl r) = 68 + (12 * r + A.pl r) := by unfold xs_m; rw [if_neg (by omega), if_neg (by omega), if_neg (by omega), if_neg (by omega)]; omega
    have gb : h (351 + 5) (68 + (12 * r + A.pl r)) = A.a (20 + r) (A.pl r) := by
      have := hR.1 (20 + r) (A.pl r) hd
      rw [emm] at this
      exact this.trans (xs_set_ne (by omega))
    rw [if_neg (ne 0 (by rw [hk0]; decide)), if_neg (ne 1 (by rw [hk0]; decide)), if_neg (ne 2 (by rw [hk0]; decide)), if_neg (ne 3 (by rw [hk0]; decide)), if_neg (ne 4 (by rw [hk0]; decide)), if_pos (gK.trans hk0), xs_i 68 (by decide), if_pos (xs_ix (i := 68 + (12 * r + A.pl r)) (by omega) (by decide)), if_pos (xs_ix (i := 12 * r + A.pl r) (by omega) (by decide)), nI_clamp (n := 68 + (12 * r + A.pl r)) (by omega), ea]
    unfold xs_A.back
    have Rb := fun v => hR.set w.1 hd v (fun z => absurd z (by omega))
    rw [emm] at Rb
    by_cases hle : A.tw r (A.pl r) ≤ A.a (20 + r) (A.pl r)
    · rw [if_pos (by rw [gT, gb]; exact hle), if_pos hle, if_pos (xs_ix (i := 68 + (12 * r + A.pl r)) (by omega) (by decide))]
      unfold xo_let
      dsimp only
      refine xs_rMoveB (P := A.set (20 + r) (A.pl r) 0) (S := S) (hK.st (A' := A.set (20 + r) (A.pl r) 0) xs_ss.rf xs_off6) ?_ w.1 hf xs_off6 (xs_set_ne (by omega))
      rw [show (351 + 5 : Nat) = 356 from rfl, xw_st_eq, xs_set_sw (t := 20 + r) (t' := 4) (by omega)]
      exact Rb 0
    · rw [if_neg (by rw [gT, gb]; exact hle), if_neg hle, if_pos (xs_ix (i := 68 + (12 * r + A.pl r)) (by omega) (by decide)), if_pos (xs_ix (i := 68 + (12 * r + A.pl r)) (by omega) (by decide)), gb]
      unfold xo_let
      dsimp only
      rw [if_pos (xs_ix (i := 20 + r) (by omega) (by decide)), gO, show (351 + 5 : Nat) = 356 from rfl]
      have R1 := Rb (A.a (20 + r) (A.pl r) + 1)
      have R2 := R1.setF w.1 (t := 2) (f := r) (by omega) hf (A.on r (A.pl r)) (fun z => absurd z (by decide))
      have o2 : xs_off (fun c => c = 356) h (xw_st (xw_st h 356 (68 + (12 * r + A.pl r)) (A.a (20 + r) (A.pl r) + 1)) 356 (20 + r) (A.on r (A.pl r))) := xs_off6.tr xs_off6
      refine ⟨_, 1, S, k, rfl, hK.st (A' := ((A.set (20 + r) (A.pl r) (A.a (20 + r) (A.pl r) + 1)).set 2 r (A.on r (A.pl r))).set 4 r (A.a 4 r + 1)) xs_ss.rf o2, ?_, o2, Nat.le_succ k, fun _ => rfl, xs_set_eq, Or.inr rfl, fun z => absurd z (by decide)⟩
      rw [xw_st_eq, xw_st_eq, xs_set_set, xs_set_sw (t := 2) (t' := 4) (fun z => absurd z.1 (by decide)), xs_set_sw (t := 20 + r) (t' := 4) (by omega)]
      exact R2
  · have hk0 : A.kd r (A.pl r) = 6 := hk9
    obtain ⟨c, hc, hoc⟩ := t1 (Or.inr (Or.inr hk0))
    have ea : A.act r = A.send r c (A.a 3 r) := by unfold xs_A.act; rw [if_neg (by rw [hk0]; decide), if_neg (by rw [hk0]; decide), if_neg (by rw [hk0]; decide), if_neg (by rw [hk0]; decide), if_neg (by rw [hk0]; decide), if_neg (by rw [hk0]; decide), if_pos hk0, hoc, nI_clamp (by omega)]
    rw [if_neg (ne 0 (by rw [hk0]; decide)), if_neg (ne 1 (by rw [hk0]; decide)), if_neg (ne 2 (by rw [hk0]; decide)), if_neg (ne 3 (by rw [hk0]; decide)), if_neg (ne 4 (by rw [hk0]; decide)), if_neg (ne 5 (by rw [hk0]; decide)), if_pos (gK.trans hk0), gO, hoc, ea]
    exact xs_r72 hK hR w hk hf h0 hp hc (Or.inr ⟨hk0, rfl⟩)
end RM9
