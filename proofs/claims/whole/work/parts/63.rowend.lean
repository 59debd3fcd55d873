/-! the reference's turn: those that wait for a fiber, the end of a fiber's turn -/
section RN
variable {h : xw_M} {A : xs_A} {S : Nat → Nat} {k r : Nat} {d0 : Int32}
theorem xs_set_same {t i : Nat} : A.set t i (A.a t i) = A := by
  show ((A.nC, A.nF, A.sc, A.kd, A.on, A.tw, fun a b => if a = t ∧ b = i then A.a t i else A.a a b, A.ls) : xs_A) = (A.nC, A.nF, A.sc, A.kd, A.on, A.tw, A.a, A.ls)
  refine xs_aext (A := A) (fun a b => ?_)
  by_cases h : a = t ∧ b = i
  · rw [if_pos h, h.1, h.2]
  · rw [if_neg h]
theorem xs_W.lineRoom (w : xs_W A 99) {i : Nat} (hi : i < A.nF) (h0 : A.a 1 i ≠ 0) : (A.ls 0).length < 8 := (w.2.2.2.2.2 0 (Or.inl rfl)).1.lt w.1 hi (fun z => by
  have := ((w.2.2.2.2.2 0 (Or.inl rfl)).2 i hi).mp z
  unfold xs_A.at at this
  rw [if_pos rfl] at this
  exact h0 this.1)
theorem xs_rJoins {f : Nat} (hf8 : f < 8) : ∀ (m i n : Nat) (h : xw_M) (A : xs_A), xs_K h A → xs_R (h 356) A S k → xs_W A 99 → i + m = A.nF → m < n → xs_tm h (mX6_done_b12 351 (nI f) n h (nI i)) () (xs_A.joins f m i A) S k := by
  intro m
  induction m with
  | zero =>
    intro i n h A hK hR w hi hn
    cases n with
    | zero => omega
    | succ n =>
      have := w.1.2.1
      unfold mX6_done_b12 xs_A.joins
      rw [if_pos (by rw [hK.2.1]; exact nI_le (by omega) (by omega))]
      exact ⟨h, rfl, hK, hR, xs_off.rf⟩
  | succ m ih =>
    intro i n h A hK hR w hi hn
    cases n with
    | zero => omega
    | succ n =>
      have h8 := w.1.2.1
      have hi2 : i < A.nF := by omega
      unfold mX6_done_b12 xs_A.joins
      rw [if_neg (by rw [hK.2.1]; exact nI_ge hi2 (by omega)), xs_rWaits hK hR w.1 hi2 (w.hp (Or.inr (Or.inr rfl)) i hi2), Option.bind_some]
      dsimp only
      by_cases e : A.a 1 i = 4 ∧ A.on i (A.pl i) = nI f
      · rw [if_pos e, if_neg (by decide), if_pos e.1, if_pos e.2]
        have w2 := w.ready hi2 (by omega) (by rw [e.1]; decide)
        obtain ⟨h1, e1, K1, R1, o1⟩ := xs_rReady hK hR w.1 hi2 (w.lineRoom hi2 (by rw [e.1]; decide))
        rw [e1, Option.bind_some]
        unfold mX6_done_b35
        rw [nI_1]
        obtain ⟨h2, e2, K2, R2, o2⟩ := ih (i + 1) n h1 (A.ready i) K1 R1 w2 (by show i + 1 + m = A.nF; omega) (by omega)
        exact ⟨h2, e2, K2, R2, o1.tr o2⟩
      · rw [if_neg e, if_pos rfl]
        have ej : (if A.a 1 i = 4 then (if A.on i (A.pl i) = nI f then A.ready i else A) else A) = A := by
          by_cases e4 : A.a 1 i = 4
          · rw [if_pos e4, if_neg (fun z => e ⟨e4, z⟩)]
          · rw [if_neg e4]
        rw [ej]
        unfold mX6_done_b35
        rw [nI_1]
        exact ih (i + 1) n h A hK hR w (by omega) (by omega)
theorem xs_rDone (hK : xs_K h A) (hR : xs_R (h 356) A S k) (w : xs_W A r) (hf : r < A.nF) (h0 : A.a 1 r = 0) : xs_tm h (mX6_done 351 (nI r) h) () (xs_A.joins r A.nF 0 (A.set 1 r 5)) S k := by
  have h8 := w.1.2.1
  unfold mX6_done xo_let
  rw [xs_i 12 (by decide), if_pos (xs_ix (i := 12 + r) (by omega) (by decide)), nI_clamp (n := 12 + r) (by omega)]
  dsimp only
  rw [show (351 + 5 : Nat) = 356 from rfl]
  have R1 : xs_R (xw_st h 356 (12 + r) 5 356) (A.set 1 r 5) S k := by
    rw [xw_st_eq]
    exact hR.setF w.1 (t := 1) (f := r) (by omega) hf 5 (fun _ => by decide)
  have w1 := (w.st (s := 5) hf (by rw [h0]; decide) (by decide) (fun z => absurd z (by decide))).rest (by rw [xs_set_eq]; decide)
  obtain ⟨h2, e2, K2, R2, o2⟩ := xs_rJoins (f := r) (by omega) A.nF 0 xo_n (xw_st h 356 (12 + r) 5) (A.set 1 r 5) (hK.st (A' := A.set 1 r 5) xs_ss.rf xs_off6) R1 w1 (by show 0 + A.nF = A.nF; omega) (by show A.nF < 300; omega)
  exact ⟨h2, e2, K2, R2, xs_off6.tr o2⟩
/-- a fiber's turn ends: its count of steps is told, and it is done or goes to the end of the line -/
theorem xs_r104 (hK : xs_K h A) (hR : xs_R (h 356) (A.set 4 r d0) S k) (w : xs_W A r) (hf : r < A.nF) {x : Int32} (h4 : A.a 4 r = d0 + x) : xs_tm h (mX6_go_b104 351 (nI r) x h) () (A.fin r) S k := by
  have h8 := w.1.2.1
  have hpl := w.pl hf
  have g4 : h (351 + 5) (36 + r) = d0 := (hR.getF (A := A.set 4 r d0) (t := 4) (by omega) hf).trans xs_set_eq
  unfold mX6_go_b104 xo_let
  rw [xs_i 36 (by decide), if_pos (xs_ix (i := 36 + r) (by omega) (by decide)), if_pos (xs_ix (i := 36 + r) (by omega) (by decide)), nI_clamp (n := 36 + r) (by omega)]
  dsimp only
  rw [g4, ← h4, show (351 + 5 : Nat) = 356 from rfl]
  have R1 : xs_R (xw_st h 356 (36 + r) (A.a 4 r) 356) A S k := by
    rw [xw_st_eq]
    have := hR.setF w.1 (t := 4) (f := r) (by omega) hf (A.a 4 r) (fun z => absurd z (by decide))
    rw [xs_set_set, xs_set_same] at this
    exact this
  have K1 : xs_K (xw_st h 356 (36 + r) (A.a 4 r)) A := hK.st xs_ss.rf xs_off6
  have o1 : xs_off (fun c => c = 356) h (xw_st h 356 (36 + r) (A.a 4 r)) := xs_off6
  generalize xw_st h 356 (36 + r) (A.a 4 r) = h1 at R1 K1 o1 ⊢
  rw [xs_i 12 (by decide), if_pos (xs_ix (i := 12 + r) (by omega) (by decide)), nI_clamp (n := 12 + r) (by omega)]
  have g1 : h1 356 (12 + r) = A.a 1 r := R1.getF (t := 1) (by omega) hf
  have g2 : h1 356 (20 + r) = A.a 2 r := R1.getF (t := 2) (by omega) hf
  unfold xs_A.fin
  by_cases e0 : A.a 1 r = 0
  · rw [if_pos (g1.trans e0), if_pos e0, xs_i 20 (by decide), if_pos (xs_ix (i := 20 + r) (by omega) (by decide)), if_pos (xs_ix (i := r) (by omega) (by decide)), nI_clamp (n := 20 + r) (by omega), nI_clamp (n := r) (by omega)]
    have gs : h1 (351 + 1) r = nI (A.sc r) := K1.2.2.1 r (by omega)
    by_cases hl : nI (A.sc r) ≤ A.a 2 r
    · have ep : A.pl r = A.sc r := by rw [hpl.1, nI_leI (by omega) (by omega)] at hl; omega
      rw [if_pos (by rw [g2, gs, hpl.1, ep]), if_pos hl]
      obtain ⟨h2, e2, K2, R2, o2⟩ := xs_rDone K1 R1 w hf e0
      rw [e2, Option.bind_some]
      exact ⟨h2, rfl, K2, R2, o1.tr o2⟩
    · rw [if_neg (fun z => hl (by rw [← g2, z, gs]; exact Int32.le_refl _)), if_neg hl]
      obtain ⟨h2, e2, K2, R2, o2⟩ := xs_rReady K1 R1 w.1 hf (w.room hf (by rw [e0]; decide) (Or.inl rfl))
      rw [e2, Option.bind_some]
      have ea : A.ready r = A.setL 0 (A.ls 0 ++ [nI r]) := by
        unfold xs_A.ready
        rw [show A.set 1 r 0 = A from by rw [← e0]; exact xs_set_same]
      rw [ea] at K2 R2
      exact ⟨h2, rfl, K2, R2, o1.tr o2⟩
  · rw [if_neg (fun z => e0 (g1.symm.trans z)), if_neg e0]
    exact ⟨h1, rfl, K1, R1, o1⟩
theorem xs_rTick (hK : xs_K h A) (hR : xs_R (h 356) A S k) (hs : A.sz) : xs_tm h (mX6_turnOn_b115 351 h) () A.tick S k := by
  unfold mX6_turnOn_b115 xo_let
  dsimp only
  rw [show (351 + 5 : Nat) = 356 from rfl, show Int32.toNatClampNeg 0 = 0 from by decide]
  have hd : A.dR 9 0 := Or.inr (Or.inr (Or.inl ⟨rfl, rfl⟩))
  have g9 : h 356 0 = A.a 9 0 := hR.1 9 0 hd
  have R1 := hR.set hs hd (A.a 9 0 + 1) (fun z => absurd z (by decide))
  rw [g9]
  refine ⟨_, rfl, hK.st (A' := A.tick) xs_ss.rf xs_off6, ?_, xs_off6⟩
  rw [xw_st_eq]
  exact R1
end RN
