/-! the reference's turn -/
/-- a turn's end: as in the clock; at most one wait more -/
def xs_tT (h : xw_M) (o : Option (xw_M × Unit)) (A' : xs_A) (k : Nat) : Prop := ∃ (h' : xw_M) (S' : Nat → Nat) (k' : Nat), o = some (h', ()) ∧ xs_K h' A' ∧ xs_R (h' 356) A' S' k' ∧ xs_off (fun c => c = 356) h h' ∧ k' ≤ k + 1
def xs_A.rest (A : xs_A) : xs_A := match A.ls 0 with
  | [] => (A.set 10 0 (A.a 10 0 + 1)).tick
  | x :: l => ((xs_A.go x.toNatClampNeg 4 ((A.setL 0 l).set 5 x.toNatClampNeg (A.a 5 x.toNatClampNeg + 1))).fin x.toNatClampNeg).tick
section RO
variable {h : xw_M} {A : xs_A} {S : Nat → Nat} {k r : Nat} {d0 : Int32}
theorem xs_rLoop : ∀ (m d n : Nat) (h : xw_M) (A : xs_A) (S : Nat → Nat) (k : Nat), xs_K h A → xs_R (h 356) (A.set 4 r d0) S k → xs_W A r → r < A.nF → A.a 1 r = 0 → A.a 4 r = d0 + nI d → d + m = 4 → m + 1 < n → k < 2 ^ 31 → xs_tT h (mX6_go_b17 351 (nI r) n h (nI d) 1) ((xs_A.go r m A).fin r) k := by
  intro m
  induction m with
  | zero =>
    intro d n h A S k hK hR w hf h0 h4 hd hn hk
    cases n with
    | zero => omega
    | succ n =>
      unfold mX6_go_b17
      rw [if_neg (by decide), if_pos (by rw [show d = 4 by omega]; decide)]
      obtain ⟨h1, e1, K1, R1, o1⟩ := xs_r104 hK hR w hf h4
      exact ⟨h1, S, k, e1, K1, R1, o1, by omega⟩
  | succ m ih =>
    intro d n h A S k hK hR w hf h0 h4 hd hn hk
    cases n with
    | zero => omega
    | succ n =>
      have h8 := w.1.2.1
      have hpl := w.pl hf
      have g1 : h (351 + 5) (12 + r) = A.a 1 r := (hR.getF (A := A.set 4 r d0) (t := 1) (by omega) hf).trans (xs_set_ne (t := 4) (t' := 1) (fun z => absurd z.1 (by decide)))
      have g2 : h (351 + 5) (20 + r) = A.a 2 r := (hR.getF (A := A.set 4 r d0) (t := 2) (by omega) hf).trans (xs_set_ne (t := 4) (t' := 2) (fun z => absurd z.1 (by decide)))
      have gs : h (351 + 1) r = nI (A.sc r) := hK.2.2.1 r (by omega)
      have em : (12 : Int32) * nI r + nI (A.pl r) = nI (12 * r + A.pl r) := by
        rw [show (12 : Int32) * nI r = nI (12 * r) from (Int32.ofNat_mul 12 r).symm, nI_add]
      unfold mX6_go_b17 xs_A.go
      rw [if_neg (by decide), if_neg (by rw [xs_e4]; exact nI_ge (by omega) (by decide)), xs_i 12 (by decide), if_pos (xs_ix (i := 12 + r) (by omega) (by decide)), nI_clamp (n := 12 + r) (by omega), if_pos (g1.trans h0), xs_i 20 (by decide), if_pos (xs_ix (i := 20 + r) (by omega) (by decide)), if_pos (xs_ix (i := r) (by omega) (by decide)), nI_clamp (n := 20 + r) (by omega), nI_clamp (n := r) (by omega)]
      by_cases hl : nI (A.sc r) ≤ A.a 2 r
      · rw [if_pos (by rw [gs, g2]; exact hl), if_pos hl]
        obtain ⟨h1, e1, K1, R1, o1⟩ := xs_r104 hK hR w hf h4
        exact ⟨h1, S, k, e1, K1, R1, o1, by omega⟩
      · rw [if_neg (by rw [gs, g2]; exact hl), if_neg hl]
        have hp : A.pl r < A.sc r := by
          rw [hpl.1, nI_leI (by omega) (by omega)] at hl
          omega
        have hi : xo_ix ((12 : Int32) * nI r + h (351 + 5) (20 + r)) 96 = true := by
          rw [g2, hpl.1, em]
          exact xs_ix (by omega) (by decide)
        have gk : h (351 + 2) (Int32.toNatClampNeg ((12 : Int32) * nI r + h (351 + 5) (20 + r))) = A.kd r (A.pl r) := by
          rw [g2, hpl.1, em, nI_clamp (by omega)]
          exact (hK.2.2.2 r (A.pl r) hf hp).1
        rw [if_pos (xs_ix (i := 20 + r) (by omega) (by decide)), if_pos hi]
        obtain ⟨w1, w2⟩ := w.act hf h0 hp
        have hf1 : r < (A.act r).nF := by rw [w2.2.1]; exact hf
        obtain ⟨h1, b, S1, k1, e1, K1, R1, o1, hk1, hk2, hb4, hb, hbz⟩ := xs_rAct hK hR w hk hf h0 hp
        have key : ∀ g : Int32, (g = 0 ↔ A.kd r (A.pl r) = 3) → g = 0 ∨ g = 1 → xs_tT h (mX6_go_b84 (mX6_go_b17 351 (nI r) n) 351 (nI r) (nI d) h g) ((if A.kd r (A.pl r) = 3 ∨ ¬ (A.act r).a 1 r = 0 then A.act r else xs_A.go r m (A.act r)).fin r) k := by
          intro g hg hg1
          have e84 : mX6_go_b84 (mX6_go_b17 351 (nI r) n) 351 (nI r) (nI d) h g = mX6_go_b17 351 (nI r) n h1 (nI d + b) g := by
            unfold mX6_go_b84
            rw [e1, Option.bind_some]
            rcases hb with rfl | rfl
            · exact if_pos rfl
            · exact if_neg (show ¬ (1 : Int32) = 0 by decide)
          rw [e84]
          by_cases hkk : A.kd r (A.pl r) = 3 ∨ ¬ (A.act r).a 1 r = 0
          · rw [if_pos hkk]
            have h4' : (A.act r).a 4 r = d0 + (nI d + b) := by rw [hb4, h4, Int32.add_assoc]
            cases n with
            | zero => omega
            | succ n =>
              obtain ⟨h2, e2, K2, R2, o2⟩ := xs_r104 K1 R1 w1 hf1 h4'
              have g1' : h1 (351 + 5) (12 + r) = (A.act r).a 1 r := (R1.getF (A := (A.act r).set 4 r d0) (t := 1) (by omega) hf1).trans (xs_set_ne (t := 4) (t' := 1) (fun z => absurd z.1 (by decide)))
              have en : mX6_go_b17 351 (nI r) (n + 1) h1 (nI d + b) g = mX6_go_b104 351 (nI r) (nI d + b) h1 := by
                unfold mX6_go_b17
                by_cases hg0 : g = 0
                · rw [if_pos hg0]
                · have hz : ¬ (A.act r).a 1 r = 0 := hkk.resolve_left (fun z => hg0 (hg.mpr z))
                  rw [if_neg hg0]
                  by_cases h4b : 4 ≤ nI d + b
                  · rw [if_pos h4b]
                  · rw [if_neg h4b, xs_i 12 (by decide), if_pos (xs_ix (i := 12 + r) (by omega) (by decide)), nI_clamp (n := 12 + r) (by omega), if_neg (fun z => hz (g1'.symm.trans z))]
              exact ⟨h2, S1, k1, en.trans e2, K2, R2, o1.tr o2, hk1⟩
          · rw [if_neg hkk]
            have e0 : (A.act r).a 1 r = 0 := Classical.byContradiction fun z => hkk (Or.inr z)
            have hb1 : b = 1 := hb.resolve_left (fun z => hbz z e0)
            have hg' : g = 1 := hg1.resolve_left (fun z => hkk (Or.inl (hg.mp z)))
            subst hb1
            subst hg'
            have hkk1 := hk2 e0
            obtain ⟨h2, S2, k2, e2, K2, R2, o2, q2⟩ := ih (d + 1) n h1 (A.act r) S1 k1 K1 R1 w1 hf1 e0 (by rw [hb4, h4, Int32.add_assoc, nI_1]) (by omega) (by omega) (by omega)
            exact ⟨h2, S2, k2, by rw [nI_1]; exact e2, K2, R2, o1.tr o2, by omega⟩
        by_cases k3 : A.kd r (A.pl r) = 3
        · rw [if_pos (gk.trans k3)]
          exact key 0 ⟨fun _ => k3, fun _ => rfl⟩ (Or.inl rfl)
        · rw [if_neg (fun z => k3 (gk.symm.trans z))]
          exact key 1 ⟨fun z => absurd z (by decide), fun z => absurd z k3⟩ (Or.inr rfl)
theorem xs_rGo (hK : xs_K h A) (hR : xs_R (h 356) A S k) (w : xs_W A r) (hf : r < A.nF) (h0 : A.a 1 r = 0) (hk : k < 2 ^ 31) : xs_tT h (mX6_go 351 (nI r) h) ((xs_A.go r 4 (A.set 5 r (A.a 5 r + 1))).fin r) k := by
  have h8 := w.1.2.1
  have g5 : h 356 (44 + r) = A.a 5 r := hR.getF (t := 5) (by omega) hf
  unfold mX6_go xo_let
  rw [xs_i 44 (by decide), if_pos (xs_ix (i := 44 + r) (by omega) (by decide)), if_pos (xs_ix (i := 44 + r) (by omega) (by decide)), nI_clamp (n := 44 + r) (by omega)]
  dsimp only
  rw [show (351 + 5 : Nat) = 356 from rfl, g5]
  have R1 := hR.setF w.1 (t := 5) (f := r) (by omega) hf (A.a 5 r + 1) (fun z => absurd z (by decide))
  obtain ⟨h2, S2, k2, e2, K2, R2, o2, q2⟩ := xs_rLoop (d0 := (A.set 5 r (A.a 5 r + 1)).a 4 r) 4 0 xo_n (xw_st h 356 (44 + r) (A.a 5 r + 1)) (A.set 5 r (A.a 5 r + 1)) S k (hK.st (A' := A.set 5 r (A.a 5 r + 1)) xs_ss.rf xs_off6) (by rw [xw_st_eq, xs_set_same]; exact R1) (w.scal (by decide)) hf h0 (by rw [nI_0, Int32.add_zero]) rfl (by decide) hk
  exact ⟨h2, S2, k2, e2, K2, R2, xs_off6.tr o2, q2⟩
theorem xs_rTurnLoop : ∀ (m i n : Nat) (h : xw_M) (A : xs_A), xs_K h A → xs_R (h 356) A S k → xs_W A 99 → i + m = A.nF → m < n → k < 2 ^ 31 → xs_tT h (mX6_turnOn_b2 351 n h (nI i)) (xs_A.rise m i A).rest k := by
  intro m
  induction m with
  | zero =>
    intro i n h A hK hR w hi hn hk
    cases n with
    | zero => omega
    | succ n =>
      have h8 := w.1.2.1
      unfold mX6_turnOn_b2 xs_A.rise xs_A.rest
      rw [if_pos (by rw [hK.2.1]; exact nI_le (by omega) (by omega)), show Int32.toNatClampNeg 3 = 3 from by decide, show Int32.toNatClampNeg 1 = 1 from by decide, show Int32.toNatClampNeg 4 = 4 from by decide, show (351 + 5 : Nat) = 356 from rfl]
      obtain ⟨q1, q2, q3⟩ := hR.2.1 0 (Or.inl rfl)
      have q2 : h 356 3 = nI (A.ls 0).length := q2
      cases he : A.ls 0 with
      | nil =>
        rw [he] at q2
        rw [if_pos (by rw [q2]; decide)]
        have hd : A.dR 10 0 := Or.inr (Or.inr (Or.inr (Or.inl ⟨rfl, rfl⟩)))
        have g10 : h 356 1 = A.a 10 0 := hR.1 10 0 hd
        unfold xo_let
        dsimp only
        rw [g10]
        have R1 := hR.set w.1 hd (A.a 10 0 + 1) (fun z => absurd z (by decide))
        obtain ⟨h2, e2, K2, R2, o2⟩ := xs_rTick (h := xw_st h 356 1 (A.a 10 0 + 1)) (A := A.set 10 0 (A.a 10 0 + 1)) (hK.st (A' := A.set 10 0 (A.a 10 0 + 1)) xs_ss.rf xs_off6) (by rw [xw_st_eq]; exact R1) w.1
        exact ⟨h2, S, k, e2, K2, R2, xs_off6.tr o2, by omega⟩
      | cons x l =>
        rw [he] at q1 q2 q3
        have q1 : l.length + 1 ≤ 8 := q1
        have q2 : h 356 3 = nI (l.length + 1) := q2
        have hv : h 356 4 = x := q3 0 (Nat.succ_pos _)
        obtain ⟨f, hf, hx, h0, hw⟩ := w.work he
        rw [if_neg (by rw [q2]; exact nI_ne0 (Nat.succ_pos _) (by omega))]
        unfold xo_let
        dsimp only
        rw [q2, nI_pred, show xw_st h 356 3 (nI l.length) 356 3 = nI l.length from xw_stE, show (5 : Int32) = nI 5 from by decide, show (4 : Int32) = nI 4 from by decide, if_pos (xs_cpOk (a := 5) (b := 4) (n := l.length) (by omega) (by omega)), hv]
        obtain ⟨c1, c2⟩ := xs_cp356 (h := xw_st h 356 3 (nI l.length)) (a := 5) (b := 4) (n := l.length) (by omega) (by omega) (by omega)
        generalize hH : xw_cp (xw_st h 356 3 (nI l.length)) 356 (nI 5) 356 (nI 4) (nI l.length) = h2 at c1 c2 ⊢
        have hg : ∀ j, h2 356 j = if 4 ≤ j ∧ j < 4 + l.length then h 356 (5 + (j - 4)) else if j = 3 then nI l.length else h 356 j := fun j => by
          rw [c1, xw_st_eq]
          unfold va_cpy
          split
          · rw [xs_upd_ne (by omega)]
          · rfl
        have R1 := hR.pop (g' := h2 356) w.1 (n := 0) (Or.inl rfl) he (by rw [show xs_mn 0 = 3 from rfl, hg, if_neg (by omega), if_pos rfl]) (fun j hj => by
          rw [show xs_mb 0 = 4 from rfl, hg, if_pos (by omega)]
          congr 1
          omega) (fun j hj1 hj2 => by
          rw [show xs_mn 0 = 3 from rfl] at hj1
          rw [hg, if_neg (fun z => hj2 (j - 4) (by omega) (by rw [show xs_mb 0 = 4 from rfl]; omega)), if_neg hj1])
        have o1 := xs_off.tr (xs_off6 (h := h) (j := 3) (v := nI l.length)) c2
        have K1 := hK.st (A' := A.setL 0 l) xs_ss.rf o1
        subst hx
        obtain ⟨h3, S3, k3, e3, K3, R3, o3, p3⟩ := xs_rGo K1 R1 hw hf h0 hk
        rw [e3, Option.bind_some, nI_clamp (by omega)]
        have w3 : xs_W ((A.setL 0 l).set 5 f ((A.setL 0 l).a 5 f + 1)) f := hw.scal (by decide)
        obtain ⟨v1, v2⟩ := xs_W.go 4 _ w3 hf h0
        obtain ⟨v3, v4⟩ := v1.fin (by rw [v2.2.1]; exact hf)
        obtain ⟨h4, e4, K4, R4, o4⟩ := xs_rTick K3 R3 v3.1
        exact ⟨h4, S3, k3, e4, K4, R4, (o1.tr o3).tr o4, p3⟩
  | succ m ih =>
    intro i n h A hK hR w hi hn hk
    cases n with
    | zero => omega
    | succ n =>
      have h8 := w.1.2.1
      have hi2 : i < A.nF := by omega
      have g1 : h (351 + 5) (12 + i) = A.a 1 i := hR.getF (t := 1) (by omega) hi2
      have g6 : h (351 + 5) (52 + i) = A.a 6 i := hR.getF (t := 6) (by omega) hi2
      have g9 : h (351 + 5) 0 = A.a 9 0 := hR.1 9 0 (Or.inr (Or.inr (Or.inl ⟨rfl, rfl⟩)))
      unfold mX6_turnOn_b2 xs_A.rise
      rw [if_neg (by rw [hK.2.1]; exact nI_ge hi2 (by omega)), xs_i 12 (by decide), if_pos (xs_ix (i := 12 + i) (by omega) (by decide)), nI_clamp (n := 12 + i) (by omega)]
      by_cases e4 : A.a 1 i = 3
      · rw [if_pos (g1.trans e4), if_pos e4, xs_i 52 (by decide), if_pos (xs_ix (i := 52 + i) (by omega) (by decide)), nI_clamp (n := 52 + i) (by omega), show Int32.toNatClampNeg 0 = 0 from by decide]
        by_cases eo : A.a 6 i = A.a 9 0
        · rw [if_pos (g6.trans (eo.trans g9.symm)), if_pos eo]
          have w2 := w.ready hi2 (by omega) (by rw [e4]; decide)
          obtain ⟨h1, e1, K1, R1, o1⟩ := xs_rReady hK hR w.1 hi2 (w.lineRoom hi2 (by rw [e4]; decide))
          rw [e1, Option.bind_some]
          unfold mX6_turnOn_b46
          rw [nI_1]
          obtain ⟨h2, S2, k2, e2, K2, R2, o2, p2⟩ := ih (i + 1) n h1 (A.ready i) K1 R1 w2 (by show i + 1 + m = A.nF; omega) (by omega) hk
          exact ⟨h2, S2, k2, e2, K2, R2, o1.tr o2, p2⟩
        · rw [if_neg (fun z => eo (g6.symm.trans (z.trans g9))), if_neg eo]
          unfold mX6_turnOn_b46
          rw [nI_1]
          exact ih (i + 1) n h A hK hR w (by omega) (by omega) hk
      · rw [if_neg (fun z => e4 (g1.symm.trans z)), if_neg e4]
        unfold mX6_turnOn_b46
        rw [nI_1]
        exact ih (i + 1) n h A hK hR w (by omega) (by omega) hk
/-- the reference lets a turn go by as the clock does -/
theorem xs_rTurn (hK : xs_K h A) (hR : xs_R (h 356) A S k) (w : xs_W A 99) (hk : k < 2 ^ 31) : xs_tT h (mX6_turnOn 351 h) A.turn k := by
  unfold mX6_turnOn
  have h8 := w.1.2.1
  have := xs_rTurnLoop A.nF 0 xo_n h A hK hR w (by omega) (by show A.nF < 300; omega) hk
  exact this
end RO
