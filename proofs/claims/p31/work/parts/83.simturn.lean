/-! the law's clock: steps of a turn -/
section YT
variable {y y' : yz_Y} {A A' P : xs_A} {Wt : List Int32} {r : Nat}
theorem xd_set_back {t i : Nat} {v : Int32} : (A.set t i v).set t i (A.a t i) = A := by
  have : ((A.set t i v).set t i (A.a t i)).a = A.a := funext fun u => funext fun j => by
    show (if u = t ∧ j = i then A.a t i else if u = t ∧ j = i then v else A.a u j) = A.a u j
    by_cases h : u = t ∧ j = i
    · rw [if_pos h, h.1, h.2]
    · rw [if_neg h, if_neg h]
  exact congrArg (fun f => (A.nC, A.nF, A.sc, A.kd, A.on, A.tw, f, A.ls)) this
theorem xd_set_self {t i : Nat} {v : Int32} (h : A.a t i = v) : A.set t i v = A := by
  have : (A.set t i v).a = A.a := funext fun u => funext fun j => by
    show (if u = t ∧ j = i then v else A.a u j) = A.a u j
    by_cases h2 : u = t ∧ j = i
    · rw [if_pos h2, h2.1, h2.2, h]
    · rw [if_neg h2]
  exact congrArg (fun f => (A.nC, A.nF, A.sc, A.kd, A.on, A.tw, f, A.ls)) this
theorem xd_set_perm {i : Nat} {a b c d : Int32} : (((A.set 6 i a).set 1 i b).set 2 i c).set 4 i d = (((A.set 2 i c).set 4 i d).set 1 i b).set 6 i a := by
  rw [xd_set_comm (A := A) (t := 6) (t' := 1) (by omega), xd_set_comm (A := A.set 1 i b) (t := 6) (t' := 2) (by omega), xd_set_comm (A := (A.set 1 i b).set 2 i c) (t := 6) (t' := 4) (by omega), xd_set_comm (A := A) (t := 1) (t' := 2) (by omega), xd_set_comm (A := A.set 2 i c) (t := 1) (t' := 4) (by omega)]
/-- what a step has to be followed by -/
def ys_K (r k m : Nat) (K : yz_Y → Int32 → Option (yz_Y × Unit)) (A2 : xs_A) : Prop := A2.a 1 r = 0 → ∀ y Wt, ys_R y A2 Wt → ys_V A2 Wt → ys_to y (K y (nI (k + 1))) () ((xs_A.go r m A2).fin r)
/-- after a step that is done -/
theorem ys_b304 {k m : Nat} {K : yz_Y → Int32 → Option (yz_Y × Unit)} (R : ys_R y P Wt) (V : ys_V P Wt) (w : xs_W A r) (hf : r < A.nF) (h0 : A.a 1 r = 0) (hp : A.pl r < A.sc r) (ss : xs_ss A P) (hP0 : P.a 1 r = 0) (e : A.kd r (A.pl r) ≠ 2 → A.act r = P.set 4 r (P.a 4 r + 1)) (e2 : A.kd r (A.pl r) = 2 → A.act r = ((P.set 4 r (P.a 4 r + 1)).set 1 r 3).set 6 r (P.a 9 0 + A.on r (A.pl r))) (hK : ys_K r k m K (A.act r)) : ys_to y (mX7_go_b304 K (nI r) r (nI k) (12 * r + A.pl r) y) () ((xs_A.go r (m + 1) A).fin r) := by
  have hs := w.1
  have h8 := hs.2.1
  have wa := w.act hf h0 hp
  obtain ⟨s1, s2, s3, s4, s5, s6⟩ := id ss
  have hsP : P.sz := ⟨by rw [s1]; exact hs.1, by rw [s2]; exact hs.2.1, by rw [s2, s3]; exact hs.2.2⟩
  have hfP : r < P.nF := by rw [s2]; exact hf
  have hpP : A.pl r < P.sc r := by rw [s3]; exact hp
  obtain ⟨p1, p2, p3⟩ := w.pl hf
  have hgo : xs_A.go r (m + 1) A = if A.kd r (A.pl r) = 3 ∨ ¬ (A.act r).a 1 r = 0 then A.act r else xs_A.go r m (A.act r) := by
    show (if nI (A.sc r) ≤ A.a 2 r then A else _) = _
    rw [if_neg (by rw [p1]; exact nI_ge hp (by omega))]
  have R1 := R.setF hsP (t := 4) (by omega) hfP (P.a 4 r + 1)
  have V1 := V.setR hsP hP0 (t := 4) (i := r) (v := P.a 4 r + 1) (by omega) (by omega)
  have o1 : ys_o y (yz_st y (10 + r) (ys_j 4) (P.a 4 r + 1)) := ys_o.st (by omega)
  generalize hQ : P.set 4 r (P.a 4 r + 1) = Q at R1 V1 e e2
  have hsQ : Q.sz := by rw [← hQ]; exact hsP
  have hfQ : r < Q.nF := by rw [← hQ]; exact hfP
  have hpQ : A.pl r < Q.sc r := by rw [← hQ]; exact hpP
  have ek : Q.kd r (A.pl r) = A.kd r (A.pl r) := by rw [← hQ]; show P.kd _ _ = _; rw [s4]
  have eo : Q.on r (A.pl r) = A.on r (A.pl r) := by rw [← hQ]; show P.on _ _ = _; rw [s5]
  have hQ0 : Q.a 1 r = 0 := by rw [← hQ]; exact (xs_set_ne (by omega)).trans hP0
  have e9 : Q.a 9 0 = P.a 9 0 := by rw [← hQ]; exact xs_set_ne (by omega)
  unfold mX7_go_b304
  rw [if_pos (R.isF hsP hfP), if_pos (R.isF hsP hfP), xo_let_eq, (R.gF hfP).2.2.2.1]
  change ys_to y (if (yz_is (yz_st y (10 + r) (ys_j 4) (P.a 4 r + 1)) (40 + (12 * r + A.pl r)) 2 && xo_ix (0 : Int32) ((yz_st y (10 + r) (ys_j 4) (P.a 4 r + 1)).2 (40 + (12 * r + A.pl r)))) = true then _ else _) _ _
  generalize hy : yz_st y (10 + r) (ys_j 4) (P.a 4 r + 1) = y16 at R1 o1
  have hy' : yz_st y (10 + r) 6 (P.a 4 r + 1) = y16 := hy
  rw [hy', if_pos (R1.gP hsQ hfQ hpQ).1, (R1.step hfQ hpQ).1, ek]
  by_cases h2 : A.kd r (A.pl r) = 2
  · have R2 := R1.setF hsQ (t := 1) (by omega) hfQ 3
    have R3 := R2.setF hsQ (t := 6) (by omega) hfQ (P.a 9 0 + A.on r (A.pl r))
    rw [if_pos h2, if_pos (R1.isF hsQ hfQ), xo_let_eq]
    have r2 : (yz_st y16 (10 + r) 4 3).1 0 0 = Q.a 9 0 := R2.2.1.1.trans (xs_set_ne (by omega))
    have r3 : (yz_st y16 (10 + r) 4 3).1 (40 + (12 * r + A.pl r)) (Int32.toNatClampNeg (1 : Int32)) = Q.on r (A.pl r) := (R2.step (f := r) (j := A.pl r) hfQ hpQ).2.1
    have g2 : (yz_is (yz_st y16 (10 + r) 4 3) (40 + (12 * r + A.pl r)) 2 && xo_ix (1 : Int32) ((yz_st y16 (10 + r) 4 3).2 (40 + (12 * r + A.pl r)))) = true := (R2.gP (f := r) (j := A.pl r) hsQ hfQ hpQ).2.1
    have g3 : yz_is (yz_st y16 (10 + r) 4 3) (10 + r) 1 = true := R2.isF (f := r) hsQ hfQ
    rw [if_pos g2, if_pos g3, xo_let_eq, r2, r3, e9, eo]
    have ha : (A.act r).a 1 r = 3 := by rw [e2 h2, xs_set_ne (by omega), xs_set_eq]
    have V3 : ys_V (A.act r) Wt := by
      rw [e2 h2]
      refine V1.keep hsQ ⟨rfl, rfl, rfl, rfl, rfl, rfl⟩ (fun _ _ => rfl) (fun g hg => ?_)
      by_cases eg : g = r
      · subst eg
        right
        rw [hQ0, xs_set_ne (by omega), xs_set_eq]
        exact ⟨by decide, by decide⟩
      · exact Or.inl ⟨(xs_set_ne (by omega)).trans (xs_set_ne (fun z => eg z.2)), congrArg Int32.toNatClampNeg ((xs_set_ne (by omega)).trans (xs_set_ne (by omega)))⟩
    have efin : (A.act r).fin r = A.act r := by
      unfold xs_A.fin
      rw [if_neg (by rw [ha]; decide)]
    rw [hgo, if_pos (Or.inr (by rw [ha]; decide)), efin]
    refine ⟨_, Wt, rfl, ?_, V3, (o1.tr (ys_o.st (by omega))).tr (ys_o.st (by omega))⟩
    rw [e2 h2]
    exact R3
  · rw [if_neg h2, if_pos (R1.gP hsQ hfQ hpQ).1]
    have ea := e h2
    rw [← ea] at R1 V1 hQ0
    by_cases h3 : A.kd r (A.pl r) = 3
    · rw [if_pos h3, hgo, if_pos (Or.inl h3)]
      obtain ⟨y2, Wt2, t1, t2, t3, t4⟩ := ys_b358 R1 V1 wa.1 (by rw [ea]; exact hfQ) hQ0
      exact ⟨y2, Wt2, t1, t2, t3, o1.tr t4⟩
    · rw [if_neg h3, hgo, if_neg (fun z => z.elim h3 (fun z => z hQ0)), nI_1]
      obtain ⟨y2, Wt2, t1, t2, t3, t4⟩ := hK hQ0 _ _ R1 V1
      exact ⟨y2, Wt2, t1, t2, t3, o1.tr t4⟩
/-- a step after which the fiber waits -/
theorem ys_stops {m : Nat} {o : Option (yz_Y × Unit)} (w : xs_W A r) (hf : r < A.nF) (hp : A.pl r < A.sc r) (ha : (A.act r).a 1 r ≠ 0) (h : ys_to y o () (A.act r)) : ys_to y o () ((xs_A.go r (m + 1) A).fin r) := by
  obtain ⟨p1, p2, p3⟩ := w.pl hf
  have hgo : xs_A.go r (m + 1) A = A.act r := by
    show (if nI (A.sc r) ≤ A.a 2 r then A else if A.kd r (A.pl r) = 3 ∨ ¬ (A.act r).a 1 r = 0 then A.act r else _) = _
    rw [if_neg (by rw [p1]; exact nI_ge hp (by omega)), if_pos (Or.inr ha)]
  have efin : (A.act r).fin r = A.act r := by
    unfold xs_A.fin
    rw [if_neg ha]
  rw [hgo, efin]
  exact h
/-- a send: b100 -/
theorem ys_b100 {k m : Nat} {K : yz_Y → Int32 → Option (yz_Y × Unit)} {c : Nat} {v : Int32} (R : ys_R y A Wt) (V : ys_V A Wt) (w : xs_W A r) (hf : r < A.nF) (h0 : A.a 1 r = 0) (hp : A.pl r < A.sc r) (hc : c < A.nC) (ho : A.on r (A.pl r) = nI c) (hk : A.kd r (A.pl r) = 0 ∨ A.kd r (A.pl r) = 6) (ea : A.act r = A.send r c v) (hK : ys_K r k m K (A.act r)) : ys_to y (mX7_go_b100 K (nI r) r (nI k) (nI (A.pl r)) (12 * r + A.pl r) (yz_st y (10 + r) 2 (nI (A.pl r) + 1)) v (nI c)) () ((xs_A.go r (m + 1) A).fin r) := by
  have hs := w.1
  have h8 := hs.2.1
  have hc4 := hs.1
  obtain ⟨p1, p2, p3⟩ := w.pl hf
  have R1 := R.setF hs (t := 2) (by omega) hf (nI (A.pl r) + 1)
  have V1 := V.setR hs h0 (t := 2) (i := r) (v := nI (A.pl r) + 1) (by omega) (fun _ => rfl)
  have o1 : ys_o y (yz_st y (10 + r) (ys_j 2) (nI (A.pl r) + 1)) := ys_o.st (by omega)
  have W1 : xs_W (A.set 2 r (nI (A.pl r) + 1)) r := by
    rw [nI_1]
    exact w.plc hf ⟨by rw [h0]; decide, by rw [h0]; decide, by rw [h0]; decide⟩ (by omega)
  have hback : (A.set 2 r (nI (A.pl r) + 1)).set 2 r (nI (A.pl r)) = A := by
    rw [← p1]; exact xd_set_back
  have hy : yz_st y (10 + r) 2 (nI (A.pl r) + 1) = yz_st y (10 + r) (ys_j 2) (nI (A.pl r) + 1) := rfl
  rw [hy]
  generalize yz_st y (10 + r) (ys_j 2) (nI (A.pl r) + 1) = y1 at R1 o1
  unfold mX7_go_b100
  obtain ⟨q1, q2⟩ := ys_isSent (c := c) (v := v) R1 V1 W1 hc
  have e8 : (A.set 2 r (nI (A.pl r) + 1)).a 8 c = A.a 8 c := xs_set_ne (by omega)
  rw [e8] at q1 q2
  by_cases hfull : A.a 8 c ≤ nI (A.ls (1 + c)).length
  · rw [q1 hfull, Option.bind_some, if_pos rfl, if_pos (R1.isF (f := r) hs hf), xo_let_eq]
    have R2 := R1.setF (A := A.set 2 r (nI (A.pl r) + 1)) hs (t := 2) (by omega) hf (nI (A.pl r))
    rw [hback] at R2
    have es : A.act r = A.wait r 1 (5 + c) := by
      rw [ea]; unfold xs_A.send; rw [if_pos hfull]
    have ha : (A.act r).a 1 r = 1 := by rw [es]; exact xs_set_eq (A := A)
    refine ys_stops w hf hp (by rw [ha]; decide) ?_
    obtain ⟨y2, t1, t2, t3⟩ := ys_waitIn R2 hs hf 1 (by have := V.len hs; omega)
    refine ⟨y2, Wt ++ [nI r], ?_, ?_, ?_, (o1.tr (ys_o.st (by omega))).tr t3⟩
    · rw [show yz_st y1 (10 + r) 2 (nI (A.pl r)) = yz_st y1 (10 + r) (ys_j 2) (nI (A.pl r)) from rfl, t1, Option.bind_some]
    · rw [es]
      exact t2.lists (by omega) (by exact hc4)
    · rw [es]
      refine V.wait hs hf h0 (s := 1) (Or.inl rfl) ⟨rfl, rfl, rfl, rfl, rfl, rfl⟩ (xs_set_eq (A := A)) (fun g hg => xs_set_ne (A := A) (fun z => hg z.2)) (fun g => congrArg Int32.toNatClampNeg (xd_wait_a (by omega))) (fun d hd => ⟨?_, ?_⟩)
      · show (if 5 + d = 5 + c then _ else (A.set 1 r 1).ls (5 + d)) = _
        by_cases e : d = c
        · subst e
          rw [if_pos rfl, if_pos ⟨rfl, ho⟩]
        · rw [if_neg (by omega), if_neg (fun z => e ((nI_eq (by omega) (by omega)).mp (z.2.symm.trans ho))), List.append_nil]
          rfl
      · show (if 9 + d = 5 + c then _ else (A.set 1 r 1).ls (9 + d)) = _
        rw [if_neg (by omega), if_neg (fun z => absurd z.1 (by decide)), List.append_nil]
        rfl
  · obtain ⟨y2, Wt2, t1, t2, t3, t4⟩ := q2 hfull
    rw [t1, Option.bind_some, if_neg (show ¬ (1 : Int32) = 0 by decide)]
    have eP : (A.set 2 r (nI (A.pl r) + 1)).put c v = (A.put c v).set 2 r (nI (A.pl r) + 1) := by
      unfold xs_A.put
      exact xd_set_wake (A := A.setL (1 + c) (A.ls (1 + c) ++ [v])) (by omega)
    have es : A.act r = (A.put c v).move r := by
      rw [ea]; unfold xs_A.send; rw [if_neg hfull]
    have e2 : (A.put c v).a 2 r = nI (A.pl r) := by rw [← p1]; exact xs_wake_a (by omega)
    rw [eP] at t2 t3
    obtain ⟨y3, Wt3, u1, u2, u3, u4⟩ := ys_b304 (k := k) (m := m) (K := K) t2 t3 w hf h0 hp (xs_ss_put (c := c) (v := v)) ((xs_set_ne (by omega)).trans (xd_wake0 h0)) (fun _ => by rw [es, ← e2]; rfl) (fun z => by rcases hk with hk | hk <;> rw [hk] at z <;> exact absurd z (by decide)) hK
    exact ⟨y3, Wt3, u1, u2, u3, (o1.tr t4).tr u4⟩
/-- a step that only goes on: b286 -/
theorem ys_b286 {k m : Nat} {K : yz_Y → Int32 → Option (yz_Y × Unit)} (R : ys_R y A Wt) (V : ys_V A Wt) (w : xs_W A r) (hf : r < A.nF) (h0 : A.a 1 r = 0) (hp : A.pl r < A.sc r) (e : A.kd r (A.pl r) ≠ 2 → A.act r = (A.set (20 + r) (A.pl r) 0).move r) (hb : A.kd r (A.pl r) = 2 → A.a (20 + r) (A.pl r) = 0) (hK : ys_K r k m K (A.act r)) : ys_to y (mX7_go_b286 K (nI r) r (nI k) (nI (A.pl r)) (12 * r + A.pl r) y) () ((xs_A.go r (m + 1) A).fin r) := by
  have hs := w.1
  have h8 := hs.2.1
  obtain ⟨p1, p2, p3⟩ := w.pl hf
  have R1 := R.setB hs (j := A.pl r) hf 0
  have V1 := V.setR hs h0 (t := 20 + r) (i := A.pl r) (v := 0) (by omega) (by omega)
  have R2 := R1.setF (A := A.set (20 + r) (A.pl r) 0) hs (t := 2) (by omega) hf (nI (A.pl r) + 1)
  have V2 := V1.setR (A := A.set (20 + r) (A.pl r) 0) hs ((xs_set_ne (by omega)).trans h0) (t := 2) (i := r) (v := nI (A.pl r) + 1) (by omega) (fun _ => rfl)
  have e1 : (yz_st y (30 + r) (A.pl r) 0).1 (10 + r) 2 = nI (A.pl r) := by rw [(R1.gF (f := r) hf).2.1, xs_set_ne (by omega), p1]
  have gB : (yz_is y (30 + r) 2 && xo_ix (nI (A.pl r)) (y.2 (30 + r))) = true := by
    rw [R.isB hs hf, (R.2.2.2.2.2.2.1 r hf).2, xs_ix hp (by omega)]; rfl
  have isF1 : yz_is (yz_st y (30 + r) (A.pl r) 0) (10 + r) 1 = true := R1.isF (f := r) hs hf
  unfold mX7_go_b286
  rw [if_pos (R.isF hs hf), if_pos gB, nI_clamp (by omega), xo_let_eq, if_pos isF1, if_pos isF1, e1, xo_let_eq]
  have o1 : ys_o y (yz_st (yz_st y (30 + r) (A.pl r) 0) (10 + r) (ys_j 2) (nI (A.pl r) + 1)) := (ys_o.st (by omega)).tr (ys_o.st (by omega))
  have e2 : ((A.set (20 + r) (A.pl r) 0).set 2 r (nI (A.pl r) + 1)).set 4 r (((A.set (20 + r) (A.pl r) 0).set 2 r (nI (A.pl r) + 1)).a 4 r + 1) = (A.set (20 + r) (A.pl r) 0).move r := by
    unfold xs_A.move
    rw [show (A.set (20 + r) (A.pl r) 0).a 2 r = nI (A.pl r) from (xs_set_ne (by omega)).trans p1, xs_set_ne (by omega)]
  obtain ⟨y3, Wt3, u1, u2, u3, u4⟩ := ys_b304 (k := k) (m := m) (K := K) R2 V2 w hf h0 hp ⟨rfl, rfl, rfl, rfl, rfl, rfl⟩ ((xs_set_ne (by omega)).trans ((xs_set_ne (by omega)).trans h0)) (fun z => by rw [e z, e2]) (fun z => by
    rw [e2, xd_set_self (hb z)]
    have ea : A.act r = ((A.set 6 r (A.a 9 0 + A.on r (A.pl r))).set 1 r 3).move r := by
      unfold xs_A.act
      rw [z, if_neg (by decide), if_neg (by decide), if_pos rfl]
    rw [ea]
    unfold xs_A.move
    rw [xs_set_ne (t' := 9) (by omega), xs_set_ne (t' := 2) (by omega), xs_set_ne (t' := 2) (by omega), xs_set_ne (t' := 4) (by omega)]
    exact xd_set_perm) hK
  exact ⟨y3, Wt3, u1, u2, u3, o1.tr u4⟩
end YT
section YU
variable {y y' : yz_Y} {A A' P : xs_A} {Wt : List Int32} {r : Nat}
theorem ys_b67 {k m : Nat} {K : yz_Y → Int32 → Option (yz_Y × Unit)} (R : ys_R y A Wt) (V : ys_V A Wt) (w : xs_W A r) (hf : r < A.nF) (h0 : A.a 1 r = 0) (hp : A.pl r < A.sc r) (hk : A.kd r (A.pl r) = 0 ∨ A.kd r (A.pl r) = 6) (hK : ys_K r k m K (A.act r)) : ys_to y (mX7_go_b67 K (nI r) r (nI k) (nI (A.pl r)) (12 * r + A.pl r) y) () ((xs_A.go r (m + 1) A).fin r) := by
  have hs := w.1
  have h8 := hs.2.1
  have hc4 := hs.1
  obtain ⟨p1, p2, p3⟩ := w.pl hf
  obtain ⟨c, hc, ho⟩ := (w.2.1 r (A.pl r) hf hp).1 (hk.elim Or.inl (fun z => Or.inr (Or.inr z)))
  have R1 : ys_R (yz_st y (10 + r) 2 (nI (A.pl r) + 1)) (A.set 2 r (nI (A.pl r) + 1)) Wt := R.setF hs (t := 2) (by omega) hf (nI (A.pl r) + 1)
  have gp := R1.gP (f := r) (j := A.pl r) hs hf hp
  have st := R1.step (f := r) (j := A.pl r) hf hp
  have ec : (A.on r (A.pl r)).toNatClampNeg = c := by rw [ho, nI_clamp (by omega)]
  unfold mX7_go_b67
  rw [if_pos (R.isF hs hf), if_pos (R.isF hs hf), (R.gF hf).2.1, p1, xo_let_eq, if_pos gp.2.1, if_pos gp.1, st.1, st.2.1, st.2.2]
  have e1 : (A.set 2 r (nI (A.pl r) + 1)).kd r (A.pl r) = A.kd r (A.pl r) := rfl
  have e2 : (A.set 2 r (nI (A.pl r) + 1)).on r (A.pl r) = nI c := ho
  have e3 : (A.set 2 r (nI (A.pl r) + 1)).tw r (A.pl r) = A.tw r (A.pl r) := rfl
  rw [e1, e2, e3]
  by_cases h : A.kd r (A.pl r) = 0
  · rw [if_pos h, if_pos gp.2.2]
    refine ys_b100 R V w hf h0 hp hc ho (Or.inl h) ?_ hK
    unfold xs_A.act
    rw [if_pos h, ec]
  · have h6 : A.kd r (A.pl r) = 6 := hk.elim (fun z => absurd z h) id
    rw [if_neg h, if_pos (R1.isF (f := r) hs hf), (R1.gF (f := r) hf).2.2.1, show (A.set 2 r (nI (A.pl r) + 1)).a 3 r = A.a 3 r from xs_set_ne (by omega)]
    refine ys_b100 R V w hf h0 hp hc ho (Or.inr h6) ?_ hK
    unfold xs_A.act
    rw [h6, if_neg (by decide), if_neg (by decide), if_neg (by decide), if_neg (by decide), if_neg (by decide), if_neg (by decide), if_pos rfl, ec]
/-- a step that may go back: b242 -/
theorem ys_b242 {k m : Nat} {K : yz_Y → Int32 → Option (yz_Y × Unit)} (R : ys_R y A Wt) (V : ys_V A Wt) (w : xs_W A r) (ip : xd_P A r) (hf : r < A.nF) (h0 : A.a 1 r = 0) (hp : A.pl r < A.sc r) (hk : A.kd r (A.pl r) ≠ 0 ∧ A.kd r (A.pl r) ≠ 1 ∧ A.kd r (A.pl r) ≠ 6) (hj : A.kd r (A.pl r) = 4 → A.act r = A.move r) (hK : ys_K r k m K (A.act r)) : ys_to y (mX7_go_b242 K (nI r) r (nI k) (nI (A.pl r)) (12 * r + A.pl r) y) () ((xs_A.go r (m + 1) A).fin r) := by
  have hs := w.1
  have h8 := hs.2.1
  obtain ⟨p1, p2, p3⟩ := w.pl hf
  have gp := R.gP (f := r) (j := A.pl r) hs hf hp
  have st := R.step (f := r) (j := A.pl r) hf hp
  have gB : (yz_is y (30 + r) 2 && xo_ix (nI (A.pl r)) (y.2 (30 + r))) = true := by
    rw [R.isB hs hf, (R.2.2.2.2.2.2.1 r hf).2, xs_ix hp (by omega)]; rfl
  have eB : y.1 (30 + r) (nI (A.pl r)).toNatClampNeg = A.a (20 + r) (A.pl r) := by rw [nI_clamp (by omega)]; exact R.2.2.2.2.2.2.2.1 r _ hf hp
  unfold mX7_go_b242
  rw [if_pos gp.1, st.1]
  by_cases h5 : A.kd r (A.pl r) = 5
  · have ea : A.act r = A.back r (A.pl r) := by
      unfold xs_A.act
      rw [h5, if_neg (by decide), if_neg (by decide), if_neg (by decide), if_neg (by decide), if_neg (by decide), if_pos rfl]
    rw [if_pos h5, if_pos (R.isF hs hf), if_pos gB, if_pos gp.2.2, st.2.2, eB]
    unfold xs_A.back at ea
    by_cases hb : A.tw r (A.pl r) ≤ A.a (20 + r) (A.pl r)
    · rw [if_pos hb] at ea ⊢
      exact ys_b286 R V w hf h0 hp (fun _ => ea) (fun z => absurd (h5.symm.trans z) (by decide)) hK
    · rw [if_neg hb] at ea ⊢
      have R1 := R.setB hs (j := A.pl r) hf (A.a (20 + r) (A.pl r) + 1)
      have V1 := V.setR hs h0 (t := 20 + r) (i := A.pl r) (v := A.a (20 + r) (A.pl r) + 1) (by omega) (by omega)
      have R2 := R1.setF (A := A.set (20 + r) (A.pl r) (A.a (20 + r) (A.pl r) + 1)) hs (t := 2) (by omega) hf (A.on r (A.pl r))
      have V2 := V1.setR (A := A.set (20 + r) (A.pl r) (A.a (20 + r) (A.pl r) + 1)) hs ((xs_set_ne (by omega)).trans h0) (t := 2) (i := r) (v := A.on r (A.pl r)) (by omega) (fun _ => rfl)
      have isF1 : yz_is (yz_st y (30 + r) (A.pl r) (A.a (20 + r) (A.pl r) + 1)) (10 + r) 1 = true := R1.isF (f := r) hs hf
      have gp1 := R1.gP (f := r) (j := A.pl r) hs hf hp
      have st1 := R1.step (f := r) (j := A.pl r) hf hp
      rw [if_pos (R.isF hs hf), if_pos gB, if_pos gB, nI_clamp (by omega), xo_let_eq, if_pos gp1.2.1, if_pos isF1, st1.2.1, xo_let_eq]
      obtain ⟨y3, Wt3, u1, u2, u3, u4⟩ := ys_b304 (k := k) (m := m) (K := K) R2 V2 w hf h0 hp ⟨rfl, rfl, rfl, rfl, rfl, rfl⟩ ((xs_set_ne (by omega)).trans ((xs_set_ne (by omega)).trans h0)) (fun _ => by rw [ea, xs_set_ne (t' := 4) (by omega), xs_set_ne (t' := 4) (by omega)]) (fun z => absurd (h5.symm.trans z) (by decide)) hK
      exact ⟨y3, Wt3, u1, u2, u3, ((ys_o.st (by omega)).tr (ys_o.st (by omega))).tr u4⟩
  · rw [if_neg h5]
    have hb : A.a (20 + r) (A.pl r) = 0 := ip.2.2.2.2 _ hp h5
    refine ys_b286 R V w hf h0 hp (fun h2 => ?_) (fun _ => hb) hK
    rw [xd_set_self hb]
    by_cases h4 : A.kd r (A.pl r) = 4
    · exact hj h4
    · unfold xs_A.act
      rw [if_neg hk.1, if_neg hk.2.1, if_neg h2, if_neg h4, if_neg h5, if_neg hk.2.2]
      split <;> rfl
/-- a step that takes -/
theorem ys_stepT {k m n : Nat} (R : ys_R y A Wt) (V : ys_V A Wt) (w : xs_W A r) (hf : r < A.nF) (h0 : A.a 1 r = 0) (hp : A.pl r < A.sc r) (hk4 : k < 4) (h1 : A.kd r (A.pl r) = 1) (hK : ys_K r k m (mX7_go_b19 (nI r) r n) (A.act r)) : ys_to y (mX7_go_b19 (nI r) r (n + 1) y (nI k)) () ((xs_A.go r (m + 1) A).fin r) := by
  have hs := w.1
  have h8 := hs.2.1
  have hc4 := hs.1
  obtain ⟨p1, p2, p3⟩ := w.pl hf
  obtain ⟨f1, f2, f3, f4, f5, f6⟩ := R.gF hf
  have gp := R.gP (f := r) (j := A.pl r) hs hf hp
  have st := R.step (f := r) (j := A.pl r) hf hp
  obtain ⟨c, hc, ho⟩ := (w.2.1 r (A.pl r) hf hp).1 (Or.inr (Or.inl h1))
  obtain ⟨g1, g2, g3, g4, g5⟩ := R.chan hs hc
  have ea : A.act r = A.take r c := by
    unfold xs_A.act
    rw [h1, if_neg (by decide), if_pos rfl, ho, nI_clamp (by omega)]
  rw [mX7_go_b19, if_neg (by rw [xs_e4]; exact nI_ge hk4 (by omega)), if_pos (R.isF hs hf), if_pos (R.isF hs hf), if_pos (R.isT hs hf), (R.2.2.2.2.2.2.1 r hf).1, f2, p1, if_neg (nI_ge hp (by omega)), if_pos (R.isF hs hf), if_pos (R.isF hs hf), ← (R.2.2.2.2.2.2.1 r hf).1, if_pos (R.gT hs hf hp), nI_clamp (by omega), if_pos gp.1, st.1, h1, if_neg (by decide), if_pos gp.1, if_neg (by decide), if_pos gp.1, if_pos rfl, if_pos gp.2.1, st.2.1, ho, if_pos g1, nI_clamp (by omega), if_pos g2, g4]
  unfold xs_A.take at ea
  cases he : A.ls (1 + c) with
  | nil =>
    rw [he] at ea
    rw [if_pos (show nI ([] : List Int32).length = 0 from rfl)]
    have ea : A.act r = A.wait r 2 (9 + c) := ea
    have ha : (A.act r).a 1 r = 2 := by rw [ea]; exact xs_set_eq (A := A)
    refine ys_stops w hf hp (by rw [ha]; decide) ?_
    obtain ⟨y2, t1, t2, t3⟩ := ys_waitIn R hs hf 2 (by have := V.len hs; omega)
    refine ⟨y2, Wt ++ [nI r], by rw [t1, Option.bind_some], ?_, ?_, t3⟩
    · rw [ea]
      exact t2.lists (by omega) (by exact hc4)
    · rw [ea]
      refine V.wait hs hf h0 (s := 2) (Or.inr (Or.inl rfl)) ⟨rfl, rfl, rfl, rfl, rfl, rfl⟩ (xs_set_eq (A := A)) (fun g hg => xs_set_ne (A := A) (fun z => hg z.2)) (fun g => congrArg Int32.toNatClampNeg (xd_wait_a (by omega))) (fun d hd => ⟨?_, ?_⟩)
      · show (if 5 + d = 9 + c then _ else (A.set 1 r 2).ls (5 + d)) = _
        rw [if_neg (by omega), if_neg (fun z => absurd z.1 (by decide)), List.append_nil]
        rfl
      · show (if 9 + d = 9 + c then _ else (A.set 1 r 2).ls (9 + d)) = _
        by_cases e : d = c
        · subst e
          rw [if_pos rfl, if_pos ⟨rfl, ho⟩]
        · rw [if_neg (by omega), if_neg (fun z => e ((nI_eq (by omega) (by omega)).mp (z.2.symm.trans ho))), List.append_nil]
          rfl
  | cons v l =>
    rw [he] at ea
    have ea : A.act r = (((A.setL (1 + c) l).set 3 r (A.a 3 r + v)).wake (5 + c)).move r := ea
    have hlen : (A.ls (1 + c)).length = l.length + 1 := by rw [he]; rfl
    obtain ⟨u1, u2, u3⟩ := w.full hc
    have gD : (yz_is y (6 + c) 2 && xo_ix (0 : Int32) (v :: l).length) = true := by
      rw [g2]
      exact xs_ix (i := 0) (n := l.length + 1) (by omega) (by omega)
    have eD : y.1 (6 + c) (Int32.toNatClampNeg (0 : Int32)) = v := by
      have := (R.2.2.2.1 c hc).2 0 (by omega)
      rw [he] at this
      exact this
    have R1 : ys_R (yz_st y (10 + r) 3 (A.a 3 r + v)) (A.set 3 r (A.a 3 r + v)) Wt := R.setF hs (t := 3) (by omega) hf (A.a 3 r + v)
    have V1 := V.setR hs h0 (t := 3) (i := r) (v := A.a 3 r + v) (by omega) (by omega)
    obtain ⟨b1, b2, b3, b4, b5⟩ := R1.chan (c := c) hs hc
    have gp1 := R1.gP (f := r) (j := A.pl r) hs hf hp
    have st1 := R1.step (f := r) (j := A.pl r) hf hp
    have b4 : (yz_st y (10 + r) 3 (A.a 3 r + v)).2 (6 + c) = l.length + 1 := by rw [b4]; exact hlen
    have L2 : ys_L (yz_rem (yz_st y (10 + r) 3 (A.a 3 r + v)) (6 + c) 0) (6 + c) l := by
      have := (R1.2.2.2.1 c hc).rem (b := 0) (by show 0 < (A.ls (1 + c)).length; omega) (by show (A.ls (1 + c)).length < _; omega)
      rw [show (A.set 3 r (A.a 3 r + v)).ls (1 + c) = v :: l from he] at this
      exact this
    have R2 : ys_R (yz_rem (yz_st y (10 + r) 3 (A.a 3 r + v)) (6 + c) 0) ((A.set 3 r (A.a 3 r + v)).setL (1 + c) l) Wt := R1.drop (A := A.set 3 r (A.a 3 r + v)) hs hc L2
    have V2 := V1.setL (A := A.set 3 r (A.a 3 r + v)) (n := 1 + c) (l := l) hs (by omega)
    have W2 : xs_W ((A.set 3 r (A.a 3 r + v)).setL (1 + c) l) r := (w.scal (t := 3) (i := r) (v := A.a 3 r + v) (by omega)).drops hc (fun p hp8 e => by
      obtain ⟨q, q1, q2, q3, q4⟩ := w.2.2.2.2.1 c hc
      have e2 : A.a 8 c = nI p := (xs_set_ne (by omega)).symm.trans e
      have : p = q := (nI_eq (by omega) (by omega)).mp (e2.symm.trans q3)
      omega)
    have W3 : xs_W (((A.set 3 r (A.a 3 r + v)).setL (1 + c) l).set 2 r (nI (A.pl r) + 1)) r := by
      rw [nI_1]
      exact W2.plc hf ⟨by show (A.set 3 r (A.a 3 r + v)).a 1 r ≠ 1; rw [xs_set_ne (by omega), h0]; decide, by show (A.set 3 r (A.a 3 r + v)).a 1 r ≠ 2; rw [xs_set_ne (by omega), h0]; decide, by show (A.set 3 r (A.a 3 r + v)).a 1 r ≠ 4; rw [xs_set_ne (by omega), h0]; decide⟩ (by show A.pl r + 1 ≤ A.sc r; omega)
    have R3 : ys_R (yz_st (yz_rem (yz_st y (10 + r) 3 (A.a 3 r + v)) (6 + c) 0) (10 + r) 2 (nI (A.pl r) + 1)) (((A.set 3 r (A.a 3 r + v)).setL (1 + c) l).set 2 r (nI (A.pl r) + 1)) Wt := R2.setF (A := (A.set 3 r (A.a 3 r + v)).setL (1 + c) l) hs (t := 2) (by omega) hf _
    have V3 := V2.setR (A := (A.set 3 r (A.a 3 r + v)).setL (1 + c) l) hs (r := r) (show (A.set 3 r (A.a 3 r + v)).a 1 r = 0 from (xs_set_ne (by omega)).trans h0) (t := 2) (i := r) (v := nI (A.pl r) + 1) (by omega) (fun _ => rfl)
    have gp3 := R3.gP (f := r) (j := A.pl r) hs hf hp
    have st3 := R3.step (f := r) (j := A.pl r) hf hp
    have f23 : (yz_rem (yz_st y (10 + r) 3 (A.a 3 r + v)) (6 + c) 0).1 (10 + r) 2 = nI (A.pl r) := (R2.gF (f := r) hf).2.1.trans (show (A.set 3 r (A.a 3 r + v)).a 2 r = nI (A.pl r) from (xs_set_ne (by omega)).trans p1)
    have isF2 : yz_is (yz_rem (yz_st y (10 + r) 3 (A.a 3 r + v)) (6 + c) 0) (10 + r) 1 = true := R2.isF (f := r) hs hf
    obtain ⟨y4, Wt4, t1, t2, t3, t4⟩ := ys_wake (s := 1) (c := c) R3 V3 W3 hc (Or.inl ⟨rfl, rfl⟩)
    rw [if_neg (show ¬ nI (v :: l).length = 0 from fun z => by
      have : (v :: l).length = 0 := (nI_eq (by rw [← he]; omega) (by omega)).mp z
      cases this), if_pos (R.isF hs hf), if_pos gp.2.1, if_pos g1, if_pos gD, if_pos (R.isF hs hf), f3, eD, xo_let_eq, if_pos gp1.2.1, if_pos gp1.2.1, st1.2.1, show (A.set 3 r (A.a 3 r + v)).on r (A.pl r) = nI c from ho, if_pos b1, nI_clamp (by omega), if_pos (by rw [b1, b2, b4, decide_eq_true (show l.length + 1 ≤ 13 by omega)]; exact xs_ix (i := 0) (n := l.length + 1) (by omega) (by omega)), xo_let_eq, if_pos isF2, if_pos isF2, f23, xo_let_eq, if_pos gp3.2.1, st3.2.1, show (((A.set 3 r (A.a 3 r + v)).setL (1 + c) l).set 2 r (nI (A.pl r) + 1)).on r (A.pl r) = nI c from ho, t1, Option.bind_some]
    have eP : (((A.set 3 r (A.a 3 r + v)).setL (1 + c) l).set 2 r (nI (A.pl r) + 1)).wake (5 + c) = (((A.setL (1 + c) l).set 3 r (A.a 3 r + v)).wake (5 + c)).set 2 r (nI (A.pl r) + 1) := xd_set_wake (A := (A.set 3 r (A.a 3 r + v)).setL (1 + c) l) (by omega)
    have e2 : (((A.setL (1 + c) l).set 3 r (A.a 3 r + v)).wake (5 + c)).a 2 r = nI (A.pl r) := by
      rw [xs_wake_a (by omega), xs_set_ne (by omega)]; exact p1
    rw [eP] at t2 t3
    obtain ⟨y5, Wt5, v1, v2, v3, v4⟩ := ys_b304 (k := k) (m := m) (K := mX7_go_b19 (nI r) r n) t2 t3 w hf h0 hp (xs_ss.tr (A1 := ((A.setL (1 + c) l).set 3 r (A.a 3 r + v)).wake (5 + c)) (xs_ss.tr (A1 := (A.setL (1 + c) l).set 3 r (A.a 3 r + v)) ⟨rfl, rfl, rfl, rfl, rfl, rfl⟩ xs_ss_wake) ⟨rfl, rfl, rfl, rfl, rfl, rfl⟩) ((xs_set_ne (by omega)).trans (xd_wake0 ((xs_set_ne (by omega)).trans h0))) (fun _ => by rw [ea, ← e2]; rfl) (fun z => absurd (h1.symm.trans z) (by decide)) hK
    exact ⟨y5, Wt5, v1, v2, v3, ((((ys_o.st (by omega)).tr (ys_o.mv (by omega))).tr (ys_o.st (by omega))).tr t4).tr v4⟩
end YU
section YP
variable {y y' : yz_Y} {A A' P : xs_A} {Wt : List Int32} {r : Nat}
theorem ys_step {k m n : Nat} (R : ys_R y A Wt) (V : ys_V A Wt) (w : xs_W A r) (ip : xd_P A r) (hf : r < A.nF) (h0 : A.a 1 r = 0) (hp : A.pl r < A.sc r) (hk4 : k < 4) (hK : ys_K r k m (mX7_go_b19 (nI r) r n) (A.act r)) : ys_to y (mX7_go_b19 (nI r) r (n + 1) y (nI k)) () ((xs_A.go r (m + 1) A).fin r) := by
  by_cases h1 : A.kd r (A.pl r) = 1
  · exact ys_stepT R V w hf h0 hp hk4 h1 hK
  have hs := w.1
  have h8 := hs.2.1
  obtain ⟨p1, p2, p3⟩ := w.pl hf
  obtain ⟨f1, f2, f3, f4, f5, f6⟩ := R.gF hf
  have gp := R.gP (f := r) (j := A.pl r) hs hf hp
  have st := R.step (f := r) (j := A.pl r) hf hp
  rw [mX7_go_b19, if_neg (by rw [xs_e4]; exact nI_ge hk4 (by omega)), if_pos (R.isF hs hf), if_pos (R.isF hs hf), if_pos (R.isT hs hf), (R.2.2.2.2.2.2.1 r hf).1, f2, p1, if_neg (nI_ge hp (by omega)), if_pos (R.isF hs hf), if_pos (R.isF hs hf), ← (R.2.2.2.2.2.2.1 r hf).1, if_pos (R.gT hs hf hp), nI_clamp (by omega), if_pos gp.1, st.1]
  by_cases h0k : A.kd r (A.pl r) = 0
  · rw [if_pos h0k]
    exact ys_b67 R V w hf h0 hp (Or.inl h0k) hK
  rw [if_neg h0k, if_pos gp.1]
  by_cases h6 : A.kd r (A.pl r) = 6
  · rw [if_pos h6]
    exact ys_b67 R V w hf h0 hp (Or.inr h6) hK
  rw [if_neg h6, if_pos gp.1, if_neg h1, if_pos gp.1]
  by_cases h4 : A.kd r (A.pl r) = 4
  · obtain ⟨g, hg, ho⟩ := (w.2.1 r (A.pl r) hf hp).2.1 h4
    have ea : A.act r = A.join r g := by
      unfold xs_A.act
      rw [h4, if_neg (by decide), if_neg (by decide), if_neg (by decide), if_neg (by decide), if_pos rfl, ho, nI_clamp (by omega)]
    unfold xs_A.join at ea
    rw [if_pos h4, if_pos gp.2.1, st.2.1, ho, if_pos (R.ixF hs hg), nI_clamp (by omega), if_pos (R.isF hs hg), (R.gF hg).1]
    by_cases h5 : A.a 1 g = 5
    · rw [if_pos h5] at ea ⊢
      exact ys_b242 R V w ip hf h0 hp ⟨h0k, h1, h6⟩ (fun _ => ea) hK
    · rw [if_neg h5] at ea ⊢
      have ha : (A.act r).a 1 r = 4 := by rw [ea]; exact xs_set_eq
      refine ys_stops w hf hp (by rw [ha]; decide) ?_
      obtain ⟨y2, t1, t2, t3⟩ := ys_waitIn R hs hf 4 (by have := V.len hs; omega)
      refine ⟨y2, Wt ++ [nI r], by rw [t1, Option.bind_some], ?_, ?_, t3⟩
      · rw [ea]; exact t2
      · rw [ea]
        refine V.wait hs hf h0 (s := 4) (Or.inr (Or.inr rfl)) ⟨rfl, rfl, rfl, rfl, rfl, rfl⟩ xs_set_eq (fun g hg => xs_set_ne (fun z => hg z.2)) (fun g => congrArg Int32.toNatClampNeg (xs_set_ne (by omega))) (fun d hd => ⟨?_, ?_⟩)
        · rw [if_neg (fun z => absurd z.1 (by decide)), List.append_nil]; rfl
        · rw [if_neg (fun z => absurd z.1 (by decide)), List.append_nil]; rfl
  · rw [if_neg h4]
    exact ys_b242 R V w ip hf h0 hp ⟨h0k, h1, h6⟩ (fun z => absurd z h4) hK
theorem ys_loop (hr : r < 99) : ∀ (m k n : Nat) (y : yz_Y) (A : xs_A) (Wt : List Int32), ys_R y A Wt → ys_V A Wt → xs_W A r → xd_P A r → r < A.nF → A.a 1 r = 0 → k + m = 4 → m < n → ys_to y (mX7_go_b19 (nI r) r n y (nI k)) () ((xs_A.go r m A).fin r) := by
  intro m
  induction m with
  | zero =>
    intro k n y A Wt R V w ip hf h0 hk hn
    cases n with
    | zero => omega
    | succ n =>
      rw [mX7_go_b19, if_pos (by rw [xs_e4]; exact nI_le (by omega) (by omega))]
      exact ys_b358 R V w hf h0
  | succ m ih =>
    intro k n y A Wt R V w ip hf h0 hk hn
    cases n with
    | zero => omega
    | succ n =>
      have hs := w.1
      have h8 := hs.2.1
      obtain ⟨p1, p2, p3⟩ := w.pl hf
      by_cases hp : A.pl r < A.sc r
      · refine ys_step R V w ip hf h0 hp (by omega) ?_
        intro ha y2 Wt2 R2 V2
        have wa := w.act hf h0 hp
        exact ih (k + 1) n y2 (A.act r) Wt2 R2 V2 wa.1 (xd_actP ip hf h0) (by rw [wa.2.2.1]; exact hf) ha (by omega) (by omega)
      · have hle : nI (A.sc r) ≤ A.a 2 r := by rw [p1]; exact nI_le (by omega) (by omega)
        have hgo : xs_A.go r (m + 1) A = A := by
          show (if nI (A.sc r) ≤ A.a 2 r then A else _) = _
          rw [if_pos hle]
        rw [mX7_go_b19, if_neg (by rw [xs_e4]; exact nI_ge (by omega) (by omega)), if_pos (R.isF hs hf), if_pos (R.isF hs hf), if_pos (R.isT hs hf), (R.2.2.2.2.2.2.1 r hf).1, (R.gF hf).2.1, if_pos hle, hgo]
        exact ys_b358 R V w hf h0
theorem ys_go (R : ys_R y A Wt) (V : ys_V A Wt) (w : xs_W A r) (ip : xd_P A r) (hf : r < A.nF) (h0 : A.a 1 r = 0) : ys_to y (mX7_go (nI r) y) () ((xs_A.go r 4 (A.set 5 r (A.a 5 r + 1))).fin r) := by
  have hs := w.1
  have h8 := hs.2.1
  have R1 : ys_R (yz_st y (10 + r) 7 (A.a 5 r + 1)) (A.set 5 r (A.a 5 r + 1)) Wt := R.setF hs (t := 5) (by omega) hf _
  have V1 := V.setR hs h0 (t := 5) (i := r) (v := A.a 5 r + 1) (by omega) (by omega)
  have W1 : xs_W (A.set 5 r (A.a 5 r + 1)) r := w.scal (by omega)
  have ip1 : xd_P (A.set 5 r (A.a 5 r + 1)) r := by
    obtain ⟨h1, h2, h3, h4, h5⟩ := ip
    have ep : (A.set 5 r (A.a 5 r + 1)).pl r = A.pl r := congrArg Int32.toNatClampNeg (xs_set_ne (by omega))
    unfold xd_P
    rw [xs_set_ne (by omega), ep]
    exact ⟨h1, h2, h3, h4, fun j hj hk => (xs_set_ne (by omega)).trans (h5 j hj hk)⟩
  obtain ⟨y2, Wt2, t1, t2, t3, t4⟩ := ys_loop (r := r) (by omega) 4 0 5 _ _ Wt R1 V1 W1 ip1 hf ((xs_set_ne (by omega)).trans h0) (by omega) (by omega)
  refine ⟨y2, Wt2, ?_, t2, t3, (ys_o.st (by omega)).tr t4⟩
  unfold mX7_go
  rw [nI_clamp (by omega), if_pos (R.ixF hs hf), if_pos (R.isF hs hf), if_pos (R.isF hs hf), xo_let_eq, (R.gF hf).2.2.2.2.1]
  exact t1
/-! a turn -/
theorem ys_rise : ∀ (m i n : Nat) (y : yz_Y) (A : xs_A) (Wt : List Int32), ys_R y A Wt → ys_V A Wt → xs_W A 99 → i + m = A.nF → m < n → ∃ y' Wt', mX7_pass_b2 n y (nI i) = (if (xs_A.rise m i A).ls 0 = [] then mX7_pass_b64 y' 1 else mX7_pass_b64 y' 0) ∧ ys_R y' (xs_A.rise m i A) Wt' ∧ ys_V (xs_A.rise m i A) Wt' ∧ ys_o y y' := by
  intro m
  induction m with
  | zero =>
    intro i n y A Wt R V w hi hn
    cases n with
    | zero => omega
    | succ n =>
      have h8 := w.1.2.1
      have hl8 := w.line8
      refine ⟨y, Wt, ?_, R, V, ys_o.rf⟩
      rw [mX7_pass_b2, R.1.2.2, if_pos (nI_le (by omega) (by omega)), if_pos ys_is4.1, R.len4]
      show _ = if A.ls 0 = [] then _ else _
      by_cases h : A.ls 0 = []
      · rw [if_pos h, if_pos (by rw [h]; rfl)]
      · rw [if_neg h, if_neg (show ¬ nI (A.ls 0).length = 0 from fun z => h (List.eq_nil_of_length_eq_zero ((nI_eq (b := 0) (by omega) (by omega)).mp z)))]
  | succ m ih =>
    intro i n y A Wt R V w hi hn
    cases n with
    | zero => omega
    | succ n =>
      have hs := w.1
      have h8 := hs.2.1
      have hg : i < A.nF := by omega
      obtain ⟨f1, f2, f3, f4, f5, f6⟩ := R.gF hg
      have go : mX7_pass_b45 (mX7_pass_b2 n) (nI i) y = mX7_pass_b2 n y (nI (i + 1)) := by unfold mX7_pass_b45; rw [nI_1]
      unfold xs_A.rise
      rw [mX7_pass_b2, if_neg (by rw [R.1.2.2]; exact nI_ge hg (by omega)), if_pos (R.ixF hs hg), nI_clamp (by omega), if_pos (R.isF hs hg), f1]
      by_cases h3 : A.a 1 i = 3
      · rw [if_pos h3, if_pos h3, if_pos (R.ixF hs hg), if_pos (R.isF hs hg), f6, R.2.1.1]
        by_cases h6 : A.a 6 i = A.a 9 0
        · rw [if_pos h6, if_pos h6]
          obtain ⟨y', q1, q2, q3⟩ := ys_ready R hs hg (by have := w.line8; omega)
          have W2 := w.ready hg (by omega) ⟨by rw [h3]; decide, by rw [h3]; decide, by rw [h3]; decide⟩
          have V2 : ys_V (A.ready i) Wt := V.keep hs ⟨rfl, rfl, rfl, rfl, rfl, rfl⟩ (fun m hm => xs_setL_ne (by omega)) (fun g hg => by
            by_cases e : g = i
            · subst e
              right
              have : (A.ready g).a 1 g = 0 := xs_set_eq (A := A)
              rw [h3, this]
              exact ⟨by decide, by decide⟩
            · exact Or.inl ⟨xs_set_ne (A := A) (fun z => e z.2), congrArg Int32.toNatClampNeg (xd_ready_sa 2 g (by omega))⟩)
          obtain ⟨y2, Wt2, t1, t2, t3, t4⟩ := ih (i + 1) n y' (A.ready i) Wt q2 V2 W2 (by show i + 1 + m = A.nF; omega) (by omega)
          refine ⟨y2, Wt2, ?_, t2, t3, q3.tr t4⟩
          rw [q1, Option.bind_some]
          unfold mX7_pass_b45
          rw [nI_1]
          exact t1
        · rw [if_neg h6, if_neg h6, go]
          exact ih (i + 1) n y A Wt R V w (by omega) (by omega)
      · rw [if_neg h3, if_neg h3, go]
        exact ih (i + 1) n y A Wt R V w (by omega) (by omega)
/-- whether a turn is idle -/
def xd_id (A : xs_A) : Int32 := if (xs_A.rise A.nF 0 A).ls 0 = [] then 1 else 0
theorem ys_pass (R : ys_R y A Wt) (V : ys_V A Wt) (w : xs_W A 99) (b : xd_B A) : ys_to y (mX7_pass y) (xd_id A) A.turn := by
  have h8 := w.1.2.1
  have w1 := xs_W.rise A.nF 0 A w (by omega)
  have b1 := xd_B.rise A.nF 0 A b h8 (by omega)
  obtain ⟨y1, Wt1, q1, q2, q3, q4⟩ := ys_rise A.nF 0 9 y A Wt R V w (by omega) (by omega)
  have q1 : mX7_pass y = _ := q1
  rw [q1]
  have tk : ∀ (y : yz_Y) (B : xs_A) Wt (i : Int32), ys_R y B Wt → ys_V B Wt → B.sz → i = 0 ∨ i = 1 → ys_to y (mX7_pass_b106 i y) i B.tick := fun y B Wt i R V hs hi => by
    unfold mX7_pass_b106
    rw [xo_let_eq, if_pos hi, R.2.1.1]
    refine ⟨_, Wt, rfl, R.setT hs (t := 0) (Or.inl rfl) _, V.keep hs ⟨rfl, rfl, rfl, rfl, rfl, rfl⟩ (fun _ _ => rfl) (fun g hg => Or.inl ⟨xs_set_ne (by omega), congrArg Int32.toNatClampNeg (xs_set_ne (by omega))⟩), ys_o.st (by omega)⟩
  unfold xd_id xs_A.turn
  generalize hB : xs_A.rise A.nF 0 A = B at q2 q3 w1 b1
  cases he : B.ls 0 with
  | nil =>
    rw [if_pos rfl, if_pos rfl]
    unfold mX7_pass_b64
    rw [if_neg (by decide), xo_let_eq, q2.2.1.2]
    have R2 := q2.setT w1.1.1 (t := 1) (Or.inr rfl) (B.a 10 0 + 1)
    have V2 : ys_V (B.set 10 0 (B.a 10 0 + 1)) Wt1 := q3.keep w1.1.1 ⟨rfl, rfl, rfl, rfl, rfl, rfl⟩ (fun _ _ => rfl) (fun g hg => Or.inl ⟨xs_set_ne (by omega), congrArg Int32.toNatClampNeg (xs_set_ne (by omega))⟩)
    obtain ⟨y2, Wt2, t1, t2, t3, t4⟩ := tk _ _ Wt1 1 R2 V2 w1.1.1 (Or.inr rfl)
    exact ⟨y2, Wt2, t1, t2, t3, (q4.tr (ys_o.st (by omega))).tr t4⟩
  | cons x l =>
    rw [if_neg (List.cons_ne_nil x l), if_neg (List.cons_ne_nil x l)]
    obtain ⟨f, hf, hx, h0, w2⟩ := w1.1.work he
    have hl8 := w1.1.line8
    have hlen : B.ls 0 = nI f :: l := he.trans (by rw [hx])
    have hs2 : B.sz := w1.1.1
    have h82 := hs2.2.1
    show ys_to y (mX7_pass_b64 y1 0) 0 ((xs_A.go x.toNatClampNeg 4 ((B.setL 0 l).set 5 x.toNatClampNeg (B.a 5 x.toNatClampNeg + 1))).fin x.toNatClampNeg).tick
    rw [hx, nI_clamp (by omega)]
    have l4 : y1.2 4 = l.length + 1 := by rw [q2.len4, he]; rfl
    have hl9 : l.length + 1 ≤ 8 := by rw [he] at hl8; exact hl8
    have g1 : (yz_is y1 4 2 && xo_ix (0 : Int32) (y1.2 4)) = true := by rw [ys_is4.1, l4]; exact xs_ix (i := 0) (n := l.length + 1) (by omega) (by omega)
    have g2 : (yz_is y1 4 2 && decide (y1.2 4 ≤ 13) && xo_ix (0 : Int32) (y1.2 4)) = true := by rw [ys_is4.1, l4, decide_eq_true (by omega)]; exact xs_ix (i := 0) (n := l.length + 1) (by omega) (by omega)
    have ev : y1.1 4 (Int32.toNatClampNeg (0 : Int32)) = nI f := by
      have := q2.2.2.2.2.1.1.2 0 (by rw [he]; show 0 < l.length + 1; omega)
      rw [hlen] at this
      exact this
    have R2 : ys_R (yz_rem y1 4 0) (B.setL 0 l) Wt1 := by
      refine q2.line hs2 ?_
      have := q2.2.2.2.2.1.1.rem (b := 0) (by rw [he]; show 0 < l.length + 1; omega) (by omega)
      rw [hlen] at this
      exact this
    have V2 : ys_V (B.setL 0 l) Wt1 := q3.setL hs2 (by omega)
    have ip : xd_P (B.setL 0 l) f := b1.1 f hf
    obtain ⟨y3, Wt3, t1, t2, t3, t4⟩ := ys_go R2 V2 w2 ip hf h0
    have w3 : xs_W ((B.setL 0 l).set 5 f (B.a 5 f + 1)) f := w2.scal (by omega)
    have w4 := xs_W.go 4 _ w3 hf ((xs_set_ne (by omega)).trans h0)
    have w5 := w4.1.fin (by rw [w4.2.2.1]; exact hf)
    obtain ⟨y5, Wt5, u1, u2, u3, u4⟩ := tk _ _ Wt3 0 t2 t3 w5.1.1 (Or.inl rfl)
    refine ⟨y5, Wt5, ?_, u2, u3, ((q4.tr (ys_o.mv (by omega))).tr t4).tr u4⟩
    unfold mX7_pass_b64
    rw [if_pos rfl, if_pos g1, if_pos g2, xo_let_eq, ev, t1, Option.bind_some]
    exact u1
end YP
