/-! the law's clock grows -/
section YB
variable {y y' : yz_Y} {A A' P : xs_A} {Wt : List Int32} {r : Nat}
theorem ys_addChannel (R : ys_R y A Wt) (V : ys_V A Wt) (I : xd_I A) (h4 : A.nC < 4) {p : Nat} : ys_to y (mX7_addChannel (nI p) y) () (A.addC p) := by
  obtain ⟨w, fa, b, _⟩ := I
  have hs := w.1
  have h8 := hs.2.1
  obtain ⟨r1, r2, r3, r4, r5, r6, r7, r8, r9⟩ := R
  obtain ⟨f1, f2, f3, f4⟩ := fa.2.2 A.nC (Nat.le_refl _) h4
  have e1 : y.2 1 = A.nC := r1.1
  have e2 : y.2 2 = A.nC := r1.2.1
  have ea : ∀ u j, u ≠ 8 → (A.addC p).a u j = A.a u j := fun u j h => xs_set_ne (A := A) (fun z => h z.1)
  have c1 : ∀ k, k ≠ 1 → k ≠ 6 + A.nC → (yz_app (yz_gC y) 1 (nI p)).1 k = y.1 k := fun k h1 h2 => by
    unfold yz_app
    rw [(yz_mv_ne h1).1]
    show (if k = 6 + y.2 2 then (fun _ => 0) else y.1 k) = _
    rw [e2, if_neg h2]
  have c2 : ∀ k, k ≠ 1 → k ≠ 2 → k ≠ 6 + A.nC → (yz_app (yz_gC y) 1 (nI p)).2 k = y.2 k := fun k h1 h2 h3 => by
    unfold yz_app
    rw [(yz_mv_ne h1).2]
    show (if k = 2 then y.2 2 + 1 else if k = 6 + y.2 2 then 0 else y.2 k) = _
    rw [e2, if_neg h2, if_neg h3]
  have g21 : (yz_gC y).2 1 = A.nC := by
    show (if 1 = 2 then y.2 2 + 1 else if 1 = 6 + y.2 2 then 0 else y.2 1) = _
    rw [if_neg (by omega), if_neg (by omega), e1]
  have g11 : (yz_gC y).1 1 = y.1 1 := if_neg (by omega)
  have c12 : (yz_app (yz_gC y) 1 (nI p)).2 1 = A.nC + 1 := by unfold yz_app; rw [yz_mv_2, g21]
  have c11 : (yz_app (yz_gC y) 1 (nI p)).1 1 = upd (y.1 1) A.nC (nI p) := by unfold yz_app; rw [yz_mv_1, g21, g11]
  have c22 : (yz_app (yz_gC y) 1 (nI p)).2 2 = A.nC + 1 := by
    unfold yz_app
    rw [(yz_mv_ne (by omega)).2]
    show (if 2 = 2 then y.2 2 + 1 else if 2 = 6 + y.2 2 then 0 else y.2 2) = _
    rw [if_pos rfl, e2]
  have c6 : (yz_app (yz_gC y) 1 (nI p)).2 (6 + A.nC) = 0 := by
    unfold yz_app
    rw [(yz_mv_ne (by omega)).2]
    show (if 6 + A.nC = 2 then y.2 2 + 1 else if 6 + A.nC = 6 + y.2 2 then 0 else y.2 (6 + A.nC)) = 0
    rw [if_neg (by omega), e2, if_pos rfl]
  refine ⟨yz_app (yz_gC y) 1 (nI p), Wt, ?_, ⟨⟨c12, c22, (c2 3 (by omega) (by omega) (by omega)).trans r1.2.2⟩, ?_, fun c hc => ?_, fun c hc => ?_, ⟨?_, ?_⟩, fun f t hf h1 h2 => ?_, fun f hf => ?_, fun f j hf hj => ?_, fun f j hf hj => ?_⟩, ⟨V.1, fun g hg => ?_, fun c hc => ?_⟩, fun k hk => ⟨c1 k (by omega) (by omega), c2 k (by omega) (by omega) (by omega)⟩⟩
  · unfold mX7_addChannel
    rw [if_pos ⟨by omega, by omega⟩]
  · rw [c1 0 (by omega) (by omega), ea 9 0 (by omega), ea 10 0 (by omega)]; exact r2
  · have hc : c < A.nC + 1 := hc
    rw [c11]
    unfold upd
    by_cases e : c = A.nC
    · rw [if_pos e, e]
      exact (xs_set_eq (A := A)).symm
    · rw [if_neg e, show (A.addC p).a 8 c = A.a 8 c from xs_set_ne (A := A) (fun z => e z.2)]
      exact r3 c (by omega)
  · have hc : c < A.nC + 1 := hc
    show ys_L _ _ (A.ls (1 + c))
    by_cases e : c = A.nC
    · subst e
      rw [f2]
      exact ⟨c6, fun i hi => absurd hi (by show ¬ i < 0; omega)⟩
    · have := r4 c (by omega)
      exact ⟨(c2 _ (by omega) (by omega) (by omega)).trans this.1, fun i hi => by rw [c1 _ (by omega) (by omega)]; exact this.2 i hi⟩
  · exact ⟨(c2 _ (by omega) (by omega) (by omega)).trans r5.1.1, fun i hi => by rw [c1 _ (by omega) (by omega)]; exact r5.1.2 i hi⟩
  · exact ⟨(c2 _ (by omega) (by omega) (by omega)).trans r5.2.1, fun i hi => by rw [c1 _ (by omega) (by omega)]; exact r5.2.2 i hi⟩
  · have hf : f < A.nF := hf
    rw [c1 _ (by omega) (by omega), ea t f (by omega)]; exact r6 f t hf h1 h2
  · have hf : f < A.nF := hf
    rw [c2 _ (by omega) (by omega) (by omega), c2 _ (by omega) (by omega) (by omega)]; exact r7 f hf
  · have hf : f < A.nF := hf
    rw [c1 _ (by omega) (by omega), ea _ _ (by omega)]; exact r8 f j hf hj
  · have hf : f < A.nF := hf
    rw [c1 _ (by omega) (by omega), c2 _ (by omega) (by omega) (by omega)]; exact r9 f j hf hj
  · rw [ea 1 g (by omega)]; exact V.2.1 g hg
  · have hc : c < A.nC + 1 := hc
    have ew : ∀ s, ys_w (A.addC p) s c = ys_w A s c := fun s => funext fun x => by
      unfold ys_w
      rw [ea 1 _ (by omega), show (A.addC p).pl x.toNatClampNeg = A.pl x.toNatClampNeg from congrArg Int32.toNatClampNeg (ea 2 _ (by omega))]
      rfl
    rw [ew, ew]
    show A.ls (5 + c) = _ ∧ A.ls (9 + c) = _
    by_cases e : c = A.nC
    · subst e
      have no : ∀ s, s = 1 ∨ s = 2 → Wt.filter (ys_w A s A.nC) = [] := fun s hs12 => ys_fil (fun x hx => by
        obtain ⟨g, hg, rfl⟩ := V.1.2 x hx
        rw [ys_w_nI (by omega), decide_eq_false]
        rintro ⟨z1, z2⟩
        obtain ⟨_, _, q1, q2, _⟩ := b.1 g hg
        have hp := w.2.2.2.1 g hg (by rw [z1]; exact hs12.elim Or.inl (fun h => Or.inr (Or.inl h)))
        obtain ⟨c, hc, ho⟩ := (w.2.1 g (A.pl g) hg hp).1 (by
          rcases hs12 with rfl | rfl
          · exact (q1 z1).elim Or.inl (fun z => Or.inr (Or.inr z))
          · exact Or.inr (Or.inl (q2 z1)))
        have := (nI_eq (by omega) (by omega)).mp (ho.symm.trans z2)
        omega)
      rw [f3, f4, no 1 (Or.inl rfl), no 2 (Or.inr rfl)]
      exact ⟨rfl, rfl⟩
    · exact V.2.2 c (by omega)
theorem ys_addFiber (R : ys_R y A Wt) (V : ys_V A Wt) (I : xd_I A) (h8 : A.nF < 8) : ys_to y (mX7_addFiber y) () A.addF := by
  obtain ⟨w, fa, b, _⟩ := I
  have hs := w.1
  have h4 := hs.1
  obtain ⟨r1, r2, r3, r4, r5, r6, r7, r8, r9⟩ := R
  obtain ⟨f1, f2, f3⟩ := fa.1 A.nF (Nat.le_refl _) h8
  have e3 : y.2 3 = A.nF := r1.2.2
  have c1 : ∀ k, k ≠ 10 + A.nF → k ≠ 30 + A.nF → (yz_gF y).1 k = y.1 k := fun k h1 h2 => by
    show (if k = 10 + y.2 3 then (fun j => if j = 4 then 5 else 0) else if k = 30 + y.2 3 then (fun _ => 0) else y.1 k) = _
    rw [e3, if_neg h1, if_neg h2]
  have c2 : ∀ k, k ≠ 3 → k ≠ 20 + A.nF → k ≠ 30 + A.nF → (yz_gF y).2 k = y.2 k := fun k h1 h2 h3 => by
    show (if k = 3 then y.2 3 + 1 else if k = 20 + y.2 3 then 0 else if k = 30 + y.2 3 then 0 else y.2 k) = _
    rw [e3, if_neg h1, if_neg h2, if_neg h3]
  have k3 : (yz_gF y).2 3 = A.nF + 1 := by
    show (if 3 = 3 then y.2 3 + 1 else if 3 = 20 + y.2 3 then 0 else if 3 = 30 + y.2 3 then 0 else y.2 3) = _
    rw [if_pos rfl, e3]
  have k20 : (yz_gF y).2 (20 + A.nF) = 0 := by
    show (if 20 + A.nF = 3 then y.2 3 + 1 else if 20 + A.nF = 20 + y.2 3 then 0 else if 20 + A.nF = 30 + y.2 3 then 0 else y.2 (20 + A.nF)) = _
    rw [if_neg (by omega), e3, if_pos rfl]
  have k30 : (yz_gF y).2 (30 + A.nF) = 0 := by
    show (if 30 + A.nF = 3 then y.2 3 + 1 else if 30 + A.nF = 20 + y.2 3 then 0 else if 30 + A.nF = 30 + y.2 3 then 0 else y.2 (30 + A.nF)) = _
    rw [if_neg (by omega), e3, if_neg (by omega), if_pos rfl]
  have k10 : (yz_gF y).1 (10 + A.nF) = fun j => if j = 4 then 5 else 0 := by
    show (if 10 + A.nF = 10 + y.2 3 then (fun j => if j = 4 then 5 else 0) else if 10 + A.nF = 30 + y.2 3 then (fun _ => 0) else y.1 (10 + A.nF)) = _
    rw [e3, if_pos rfl]
  refine ⟨yz_gF y, Wt, ?_, ⟨⟨(c2 1 (by omega) (by omega) (by omega)).trans r1.1, (c2 2 (by omega) (by omega) (by omega)).trans r1.2.1, k3⟩, ?_, fun c hc => ?_, fun c hc => ?_, ⟨?_, ?_⟩, fun f t hf h1 h2 => ?_, fun f hf => ?_, fun f j hf hj => ?_, fun f j hf hj => ?_⟩, ⟨⟨V.1.1, fun x hx => ?_⟩, fun g hg => ?_, V.2.2⟩, fun k hk => ⟨c1 k (by omega) (by omega), c2 k (by omega) (by omega) (by omega)⟩⟩
  · unfold mX7_addFiber
    rw [if_pos (by omega)]
  · rw [c1 0 (by omega) (by omega)]; exact r2
  · have hc : c < A.nC := hc
    rw [c1 1 (by omega) (by omega)]; exact r3 c hc
  · have hc : c < A.nC := hc
    have := r4 c hc
    exact ⟨(c2 _ (by omega) (by omega) (by omega)).trans this.1, fun i hi => by rw [c1 _ (by omega) (by omega)]; exact this.2 i hi⟩
  · exact ⟨(c2 _ (by omega) (by omega) (by omega)).trans r5.1.1, fun i hi => by rw [c1 _ (by omega) (by omega)]; exact r5.1.2 i hi⟩
  · exact ⟨(c2 _ (by omega) (by omega) (by omega)).trans r5.2.1, fun i hi => by rw [c1 _ (by omega) (by omega)]; exact r5.2.2 i hi⟩
  · have hf : f < A.nF + 1 := hf
    by_cases e : f = A.nF
    · subst e
      rw [k10]
      show (if ys_j t = 4 then (5 : Int32) else 0) = A.a t A.nF
      by_cases e1 : t = 1
      · subst e1
        rw [f1]; rfl
      · rw [f2 t (by omega) h2, if_neg (fun z => e1 (ys_j_inj ⟨h1, h2⟩ (by omega) (z.trans (show (4 : Nat) = ys_j 1 from rfl))))]
    · rw [c1 _ (by omega) (by omega)]; exact r6 f t (by omega) h1 h2
  · have hf : f < A.nF + 1 := hf
    show _ = A.sc f ∧ _ = A.sc f
    by_cases e : f = A.nF
    · subst e
      rw [f3]
      exact ⟨k20, k30⟩
    · rw [c2 _ (by omega) (by omega) (by omega), c2 _ (by omega) (by omega) (by omega)]; exact r7 f (by omega)
  · have hf : f < A.nF + 1 := hf
    have hj : j < A.sc f := hj
    by_cases e : f = A.nF
    · subst e; omega
    · rw [c1 _ (by omega) (by omega)]; exact r8 f j (by omega) hj
  · have hf : f < A.nF + 1 := hf
    have hj : j < A.sc f := hj
    by_cases e : f = A.nF
    · subst e; omega
    · have h12 := hs.2.2 f (by omega)
      rw [c1 _ (by omega) (by omega), c2 _ (by omega) (by omega) (by omega)]; exact r9 f j (by omega) hj
  · obtain ⟨g, hg, e⟩ := V.1.2 x hx
    exact ⟨g, Nat.lt_succ_of_lt hg, e⟩
  · have hg : g < A.nF + 1 := hg
    by_cases e : g = A.nF
    · subst e
      have e1 : A.addF.a 1 A.nF = 5 := f1
      rw [e1]
      constructor
      · intro z
        obtain ⟨f, hf, e⟩ := V.1.2 _ z
        have := xs_inj (by omega) (by omega) e
        omega
      · intro z
        rcases z with z | z | z <;> exact absurd z (by decide)
    · exact V.2.1 g (by omega)
end YB
section YC
variable {y y' : yz_Y} {A A' P : xs_A} {Wt : List Int32} {r : Nat}
theorem ys_addS (R : ys_R y A Wt) (V : ys_V A Wt) (I : xd_I A) {f : Nat} (hf : f < A.nF) (hc : A.sc f < 12) {k o t : Int32} : ys_R (yz_app (yz_gS y f k o t) (30 + f) 0) (A.addS f k o t) Wt ∧ ys_V (A.addS f k o t) Wt ∧ ys_o y (yz_app (yz_gS y f k o t) (30 + f) 0) := by
  obtain ⟨w, fa, b, _⟩ := I
  have hs := w.1
  have h4 := hs.1
  have h8 := hs.2.1
  obtain ⟨r1, r2, r3, r4, r5, r6, r7, r8, r9⟩ := R
  have e20 : y.2 (20 + f) = A.sc f := (r7 f hf).1
  have e30 : y.2 (30 + f) = A.sc f := (r7 f hf).2
  have c1 : ∀ a, a ≠ 30 + f → a ≠ 40 + (12 * f + A.sc f) → (yz_app (yz_gS y f k o t) (30 + f) 0).1 a = y.1 a := fun a h1 h2 => by
    unfold yz_app
    rw [(yz_mv_ne h1).1]
    show (if a = 40 + (12 * f + y.2 (20 + f)) then (fun j => if j = 0 then k else if j = 1 then o else t) else y.1 a) = _
    rw [e20, if_neg h2]
  have c2 : ∀ a, a ≠ 30 + f → a ≠ 20 + f → a ≠ 40 + (12 * f + A.sc f) → (yz_app (yz_gS y f k o t) (30 + f) 0).2 a = y.2 a := fun a h1 h2 h3 => by
    unfold yz_app
    rw [(yz_mv_ne h1).2]
    show (if a = 20 + f then y.2 (20 + f) + 1 else if a = 40 + (12 * f + y.2 (20 + f)) then 3 else y.2 a) = _
    rw [e20, if_neg h2, if_neg h3]
  have g30 : (yz_gS y f k o t).2 (30 + f) = A.sc f := by
    show (if 30 + f = 20 + f then y.2 (20 + f) + 1 else if 30 + f = 40 + (12 * f + y.2 (20 + f)) then 3 else y.2 (30 + f)) = _
    rw [if_neg (by omega), if_neg (by omega), e30]
  have g31 : (yz_gS y f k o t).1 (30 + f) = y.1 (30 + f) := if_neg (by omega)
  have k30 : (yz_app (yz_gS y f k o t) (30 + f) 0).2 (30 + f) = A.sc f + 1 := by unfold yz_app; rw [yz_mv_2, g30]
  have k31 : (yz_app (yz_gS y f k o t) (30 + f) 0).1 (30 + f) = upd (y.1 (30 + f)) (A.sc f) 0 := by unfold yz_app; rw [yz_mv_1, g30, g31]
  have k20 : (yz_app (yz_gS y f k o t) (30 + f) 0).2 (20 + f) = A.sc f + 1 := by
    unfold yz_app
    rw [(yz_mv_ne (by omega)).2]
    show (if 20 + f = 20 + f then y.2 (20 + f) + 1 else if 20 + f = 40 + (12 * f + y.2 (20 + f)) then 3 else y.2 (20 + f)) = _
    rw [if_pos rfl, e20]
  have k40 : (yz_app (yz_gS y f k o t) (30 + f) 0).1 (40 + (12 * f + A.sc f)) = fun j => if j = 0 then k else if j = 1 then o else t := by
    unfold yz_app
    rw [(yz_mv_ne (by omega)).1]
    show (if 40 + (12 * f + A.sc f) = 40 + (12 * f + y.2 (20 + f)) then (fun j => if j = 0 then k else if j = 1 then o else t) else y.1 (40 + (12 * f + A.sc f))) = _
    rw [e20, if_pos rfl]
  have k42 : (yz_app (yz_gS y f k o t) (30 + f) 0).2 (40 + (12 * f + A.sc f)) = 3 := by
    unfold yz_app
    rw [(yz_mv_ne (by omega)).2]
    show (if 40 + (12 * f + A.sc f) = 20 + f then y.2 (20 + f) + 1 else if 40 + (12 * f + A.sc f) = 40 + (12 * f + y.2 (20 + f)) then 3 else y.2 (40 + (12 * f + A.sc f))) = _
    rw [if_neg (by omega), e20, if_pos rfl]
  generalize yz_app (yz_gS y f k o t) (30 + f) 0 = z at c1 c2 k30 k31 k20 k40 k42
  have es : ∀ g, g ≠ f → (A.addS f k o t).sc g = A.sc g := fun g h => if_neg h
  have e9 : (A.addS f k o t).sc f = A.sc f + 1 := if_pos rfl
  have ek : ∀ g j, g ≠ f ∨ j < A.sc f → (A.addS f k o t).kd g j = A.kd g j ∧ (A.addS f k o t).on g j = A.on g j ∧ (A.addS f k o t).tw g j = A.tw g j := fun g j h => ⟨if_neg (fun z => h.elim (fun e => e z.1) (by omega)), if_neg (fun z => h.elim (fun e => e z.1) (by omega)), if_neg (fun z => h.elim (fun e => e z.1) (by omega))⟩
  refine ⟨⟨⟨(c2 1 (by omega) (by omega) (by omega)).trans r1.1, (c2 2 (by omega) (by omega) (by omega)).trans r1.2.1, (c2 3 (by omega) (by omega) (by omega)).trans r1.2.2⟩, ?_, fun c hc => ?_, fun c hc => ?_, ⟨?_, ?_⟩, fun g t2 hg h1 h2 => ?_, fun g hg => ?_, fun g j hg hj => ?_, fun g j hg hj => ?_⟩, ⟨V.1, V.2.1, fun c hc => ?_⟩, fun a ha => ⟨c1 a (by omega) (by omega), c2 a (by omega) (by omega) (by omega)⟩⟩
  · rw [c1 0 (by omega) (by omega)]; exact r2
  · rw [c1 1 (by omega) (by omega)]; exact r3 c hc
  · have hc : c < A.nC := hc
    have := r4 c hc
    exact ⟨(c2 _ (by omega) (by omega) (by omega)).trans this.1, fun i hi => by rw [c1 _ (by omega) (by omega)]; exact this.2 i hi⟩
  · exact ⟨(c2 _ (by omega) (by omega) (by omega)).trans r5.1.1, fun i hi => by rw [c1 _ (by omega) (by omega)]; exact r5.1.2 i hi⟩
  · exact ⟨(c2 _ (by omega) (by omega) (by omega)).trans r5.2.1, fun i hi => by rw [c1 _ (by omega) (by omega)]; exact r5.2.2 i hi⟩
  · have hg : g < A.nF := hg
    rw [c1 _ (by omega) (by omega)]; exact r6 g t2 hg h1 h2
  · have hg : g < A.nF := hg
    by_cases e : g = f
    · subst e
      rw [e9]
      exact ⟨k20, k30⟩
    · rw [es g e, c2 _ (by omega) (by omega) (by omega), c2 _ (by omega) (by omega) (by omega)]; exact r7 g hg
  · have hg : g < A.nF := hg
    by_cases e : g = f
    · subst e
      rw [e9] at hj
      rw [k31]
      unfold upd
      by_cases ej : j = A.sc g
      · rw [if_pos ej, ej]
        exact (fa.2.1 g _ (by omega) (Nat.le_refl _) hc).symm
      · rw [if_neg ej]
        exact r8 g j hg (by omega)
    · rw [es g e] at hj
      rw [c1 _ (by omega) (by omega)]; exact r8 g j hg hj
  · have hg : g < A.nF := hg
    by_cases h : g ≠ f ∨ j < A.sc f
    · have hj2 : j < A.sc g := by
        by_cases e : g = f
        · subst e; exact h.elim (fun z => absurd rfl z) id
        · rw [es g e] at hj; exact hj
      have := hs.2.2 g hg
      have := hs.2.2 f hf
      rw [(ek g j h).1, (ek g j h).2.1, (ek g j h).2.2, c1 _ (by omega) (by omega), c2 _ (by omega) (by omega) (by omega)]
      exact r9 g j hg hj2
    · have e : g = f := Classical.byContradiction (fun z => h (Or.inl z))
      subst e
      have ej : j = A.sc g := by rw [e9] at hj; omega
      subst ej
      rw [k40, k42]
      have q : ∀ (v w : Int32), (if g = g ∧ A.sc g = A.sc g then v else w) = v := fun v w => if_pos ⟨rfl, rfl⟩
      exact ⟨rfl, (q k _).symm, (q o _).symm, (q t _).symm⟩
  · have ew : ∀ s, s = 1 ∨ s = 2 → ∀ x ∈ Wt, ys_w (A.addS f k o t) s c x = ys_w A s c x := fun s _ x hx => by
      obtain ⟨g, hg, rfl⟩ := V.1.2 x hx
      have hp := w.2.2.2.1 g hg ((V.2.1 g hg).mp hx)
      have eo := (ek g (A.pl g) (by
        by_cases e : g = f
        · subst e; exact Or.inr hp
        · exact Or.inl e)).2.1
      rw [ys_w_nI (by omega), ys_w_nI (by omega)]
      show decide (A.a 1 g = s ∧ (A.addS f k o t).on g (A.pl g) = nI c) = _
      rw [eo]
    rw [List.filter_congr (ew 1 (Or.inl rfl)), List.filter_congr (ew 2 (Or.inr rfl))]
    exact V.2.2 c hc
theorem ys_addStep (R : ys_R y A Wt) (V : ys_V A Wt) (I : xd_I A) {f : Nat} (hf : f < A.nF) (hc : A.sc f < 12) {k o t : Int32} : ys_to y (mX7_addStep (nI f) k o t y) () (A.grown f k o t) := by
  have w := I.1
  have hs := w.1
  have h8 := hs.2.1
  obtain ⟨R1, V1, o1⟩ := ys_addS R V I hf hc (k := k) (o := o) (t := t)
  have hs1 : (A.addS f k o t).sz := ⟨hs.1, hs.2.1, fun g hg => by
    show (if g = f then A.sc f + 1 else A.sc g) ≤ 12
    split
    · omega
    · exact hs.2.2 g hg⟩
  unfold mX7_addStep
  rw [nI_clamp (by omega), if_pos (by
    rw [R.ixF hs hf, (R.2.2.2.2.2.2.1 f hf).1, (R.2.2.2.2.2.2.1 f hf).2, decide_eq_true hc, decide_eq_true (by omega)]; rfl)]
  generalize yz_app (yz_gS y f k o t) (30 + f) 0 = z at R1 o1
  unfold mX7_addStep2 xs_A.grown
  rw [nI_clamp (by omega), if_pos (R1.isF hs1 hf), (R1.gF hf).1]
  show ys_to y (if A.a 1 f = 5 then _ else _) () _
  by_cases h5 : A.a 1 f = 5
  · rw [if_pos h5, if_pos h5]
    obtain ⟨y2, q1, q2, q3⟩ := ys_ready R1 hs1 hf (by have := w.line8; exact Nat.le_trans this (by omega))
    refine ⟨y2, Wt, by rw [q1, Option.bind_some], q2, V1.keep hs1 ⟨rfl, rfl, rfl, rfl, rfl, rfl⟩ (fun m hm => xs_setL_ne (by omega)) (fun g hg => ?_), o1.tr q3⟩
    by_cases e : g = f
    · subst e
      right
      have e1 : ((A.addS g k o t).ready g).a 1 g = 0 := xs_set_eq (A := A.addS g k o t)
      have e2 : (A.addS g k o t).a 1 g = 5 := h5
      rw [e1, e2]
      exact ⟨by decide, by decide⟩
    · exact Or.inl ⟨xs_set_ne (A := A.addS f k o t) (fun z => e z.2), congrArg Int32.toNatClampNeg (xd_ready_sa (A := A.addS f k o t) 2 g (by omega))⟩
  · rw [if_neg h5, if_neg h5]
    exact ⟨z, Wt, rfl, R1, V1, o1⟩
/-- may a step be added -/
def ys_yn (y : yz_Y) (o : Option (yz_Y × Int32)) (p : Prop) : Prop := ∃ b, o = some (y, b) ∧ ((b = 1 ∧ p) ∨ (b = 0 ∧ ¬ p))
theorem ys_yn.yes {p : Prop} (hp : p) : ys_yn y (some (y, 1)) p := ⟨1, rfl, Or.inl ⟨rfl, hp⟩⟩
theorem ys_yn.no {p : Prop} (hp : ¬ p) : ys_yn y (some (y, 0)) p := ⟨0, rfl, Or.inr ⟨rfl, hp⟩⟩
theorem ys_rg {n : Nat} (hn : n < 2 ^ 31) (o : Int32) : (∃ c, c < n ∧ o = nI c) ↔ ¬ o < 0 ∧ ¬ nI n ≤ o := by
  constructor
  · rintro ⟨c, hc, rfl⟩
    exact ⟨nI_pos (by omega), nI_ge hc hn⟩
  · rintro ⟨h0, h1⟩
    obtain ⟨i, hi, rfl⟩ := nI_of h0
    exact ⟨i, Nat.lt_of_not_le (fun z => h1 (nI_le z hi)), rfl⟩
theorem ys_canAdd (R : ys_R y A Wt) (hs : A.sz) {f : Nat} (hf : f < A.nF) {x o t : Int32} : ys_yn y (mX7_canAdd (nI f) x o t y) (xs_okS A f x o t) := by
  have h4 := hs.1
  have h8 := hs.2.1
  have h12 := hs.2.2 f hf
  have lt1 : ∀ v : Int32, v ≤ 0 ↔ v < 1 := fun v => by rw [Int32.le_iff_toInt_le, Int32.lt_iff_toInt_lt]; show v.toInt ≤ 0 ↔ v.toInt < 1; omega
  have gt20 : ∀ v : Int32, (21 : Int32) ≤ v ↔ 20 < v := fun v => by rw [Int32.le_iff_toInt_le, Int32.lt_iff_toInt_lt]; show 21 ≤ v.toInt ↔ 20 < v.toInt; omega
  have gt9 : ∀ v : Int32, (10 : Int32) ≤ v ↔ 9 < v := fun v => by rw [Int32.le_iff_toInt_le, Int32.lt_iff_toInt_lt]; show 10 ≤ v.toInt ↔ 9 < v.toInt; omega
  have chan : ∀ {p : Prop} {B : Option (yz_Y × Int32)}, (xs_okS A f x o t ↔ (∃ c, c < A.nC ∧ o = nI c) ∧ p) → ((∃ c, c < A.nC ∧ o = nI c) → ys_yn y B (xs_okS A f x o t)) → ys_yn y (if o < 0 then some (y, (0 : Int32)) else if yz_is y 1 2 = true then (if (nI (y.2 1)) ≤ o then some (y, (0 : Int32)) else B) else none) (xs_okS A f x o t) := fun {p B} h1 h2 => by
    have rg := ys_rg (n := A.nC) (by omega) o
    rw [if_pos ys_is4.2.2, R.1.1]
    by_cases t0 : o < 0
    · rw [if_pos t0]; exact ys_yn.no (fun z => (rg.mp (h1.mp z).1).1 t0)
    · rw [if_neg t0]
      by_cases t1 : nI A.nC ≤ o
      · rw [if_pos t1]; exact ys_yn.no (fun z => (rg.mp (h1.mp z).1).2 t1)
      · rw [if_neg t1]; exact h2 (rg.mpr ⟨t0, t1⟩)
  unfold mX7_canAdd mX7_canAdd_b143
  by_cases xn : x < 0
  · rw [if_pos xn]
    exact ys_yn.no (xs_okN (fun z => by subst z; exact absurd xn (by decide)) (fun z => by subst z; exact absurd xn (by decide)) (fun z => by subst z; exact absurd xn (by decide)) (fun z => by subst z; exact absurd xn (by decide)) (fun z => by subst z; exact absurd xn (by decide)) (fun z => by subst z; exact absurd xn (by decide)) (fun z => by subst z; exact absurd xn (by decide)))
  rw [if_neg xn]
  by_cases x6 : x ≤ 6
  · rw [if_pos x6]
    by_cases e2 : x = 2
    · subst e2
      rw [if_pos rfl, xs_ok2]
      by_cases t1 : o < 1
      · rw [if_pos ((lt1 o).mpr t1)]; exact ys_yn.no (fun z => z.1 t1)
      · rw [if_neg (fun z => t1 ((lt1 o).mp z))]
        by_cases t2 : 20 < o
        · rw [if_pos ((gt20 o).mpr t2)]; exact ys_yn.no (fun z => z.2 t2)
        · rw [if_neg (fun z => t2 ((gt20 o).mp z))]; exact ys_yn.yes ⟨t1, t2⟩
    rw [if_neg e2]
    by_cases e3 : x = 3
    · subst e3
      rw [if_pos rfl, xs_ok3]; exact ys_yn.yes trivial
    rw [if_neg e3]
    by_cases e4 : x = 4
    · subst e4
      have rg := ys_rg (n := A.nF) (by omega) o
      rw [if_pos rfl, xs_ok4, R.1.2.2]
      by_cases t0 : o < 0
      · rw [if_pos t0]; exact ys_yn.no (fun z => (rg.mp z.1).1 t0)
      · rw [if_neg t0]
        by_cases t1 : nI A.nF ≤ o
        · rw [if_pos t1]; exact ys_yn.no (fun z => (rg.mp z.1).2 t1)
        · rw [if_neg t1]
          by_cases t2 : o = nI f
          · rw [if_pos t2]; exact ys_yn.no (fun z => z.2 t2)
          · rw [if_neg t2]; exact ys_yn.yes ⟨rg.mpr ⟨t0, t1⟩, t2⟩
    rw [if_neg e4]
    by_cases e5 : x = 5
    · subst e5
      rw [if_pos rfl, xs_ok5, if_pos (R.ixF hs hf), nI_clamp (by omega), if_pos (R.isF hs hf), if_pos (R.isT hs hf), (R.2.2.2.2.2.2.1 f hf).1]
      by_cases t0 : o < 0
      · rw [if_pos t0]
        refine ys_yn.no (fun z => ?_)
        obtain ⟨⟨q, hq, rfl⟩, _⟩ := z
        exact nI_pos (by omega) t0
      · rw [if_neg t0]
        obtain ⟨i, hi, rfl⟩ := nI_of t0
        by_cases t1 : i ≤ A.sc f
        · rw [if_neg (nI_nlt t1 (by omega))]
          by_cases t2 : t < 1
          · rw [if_pos ((lt1 t).mpr t2)]; exact ys_yn.no (fun z => z.2.1 t2)
          · rw [if_neg (fun z => t2 ((lt1 t).mp z))]
            by_cases t3 : 9 < t
            · rw [if_pos ((gt9 t).mpr t3)]; exact ys_yn.no (fun z => z.2.2 t3)
            · rw [if_neg (fun z => t3 ((gt9 t).mp z))]; exact ys_yn.yes ⟨⟨i, t1, rfl⟩, t2, t3⟩
        · rw [if_pos (nI_lt (by omega) (by omega))]
          refine ys_yn.no (fun z => ?_)
          obtain ⟨⟨q, hq, e⟩, _⟩ := z
          have := (nI_eq hi (by omega)).mp e
          omega
    rw [if_neg e5]
    by_cases e0 : x = 0
    · subst e0
      refine chan (p := ¬ t < -999 ∧ ¬ 999 < t) xs_ok0 (fun hc => ?_)
      rw [if_pos rfl, xs_ok0]
      by_cases t1 : t < -999
      · rw [if_pos t1]; exact ys_yn.no (fun z => z.2.1 t1)
      · rw [if_neg t1]
        by_cases t2 : 999 < t
        · rw [if_pos t2]; exact ys_yn.no (fun z => z.2.2 t2)
        · rw [if_neg t2]; exact ys_yn.yes ⟨hc, t1, t2⟩
    by_cases e1 : x = 1
    · subst e1
      refine chan (p := True) (by rw [xs_ok1, and_true]) (fun hc => ?_)
      rw [if_neg (by decide), xs_ok1]; exact ys_yn.yes hc
    by_cases e6 : x = 6
    · subst e6
      refine chan (p := True) (by rw [xs_ok6, and_true]) (fun hc => ?_)
      rw [if_neg (by decide), xs_ok6]; exact ys_yn.yes hc
    · exfalso
      obtain ⟨i, hi, rfl⟩ := nI_of xn
      have h6 : i ≤ 6 := Nat.le_of_not_lt (fun z => nI_ge (a := 6) z hi x6)
      rcases (show i = 0 ∨ i = 1 ∨ i = 2 ∨ i = 3 ∨ i = 4 ∨ i = 5 ∨ i = 6 by omega) with rfl | rfl | rfl | rfl | rfl | rfl | rfl
      · exact e0 rfl
      · exact e1 rfl
      · exact e2 rfl
      · exact e3 rfl
      · exact e4 rfl
      · exact e5 rfl
      · exact e6 rfl
  · rw [if_neg x6]
    exact ys_yn.no (xs_okN (fun z => by subst z; exact x6 (by decide)) (fun z => by subst z; exact x6 (by decide)) (fun z => by subst z; exact x6 (by decide)) (fun z => by subst z; exact x6 (by decide)) (fun z => by subst z; exact x6 (by decide)) (fun z => by subst z; exact x6 (by decide)) (fun z => by subst z; exact x6 (by decide)))
end YC
