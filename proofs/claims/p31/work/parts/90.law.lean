/-! the law: the fibers, one round, all of it -/
section LG
variable {y y' : yz_Y} {A A' P : xs_A} {Wt : List Int32} {r : Nat} {h h' : xw_M}
variable {L : Nat} {xs : Nat → Int32} {K22 : xw_M → yz_Y → Int32 → Option (xw_M × yz_Y × Unit)} {a3 a4 : Int32}
def ys_1 (y : yz_Y) (n : Nat) : Prop := y.2 152 = 1 ∧ y.2 142 = n
theorem ys_1.g (H : ys_1 y r) {i : Nat} (hi : i < r) (hr : r ≤ 8) : (yz_is y 142 6 && xo_ix (nI i) (y.2 142)) = true := by
  have e1 : yz_is y 142 6 = true := by
    unfold yz_is yz_ex
    rw [if_neg (by omega), if_neg (by omega), if_neg (by omega), if_neg (by omega), if_neg (by omega), if_neg (by omega), H.1]
    rfl
  rw [e1, H.2, xs_ix hi (by omega)]
  rfl
theorem xd_nx (w : xs_W A 99) : (A.ls 0 = [] ∧ xs_nx A = -1) ∨ ∃ f l, f < A.nF ∧ A.ls 0 = nI f :: l ∧ xs_nx A = nI f := by
  unfold xs_nx
  cases he : A.ls 0 with
  | nil => exact Or.inl ⟨rfl, rfl⟩
  | cons x l =>
    obtain ⟨f, hf, hx⟩ := (w.2.2.2.2.2 0 (Or.inl rfl)).1.2 x (by rw [he]; exact List.mem_cons_self)
    exact Or.inr ⟨f, l, hf, by rw [hx], hx⟩
theorem lw_378 (hK : ∀ A h y, ys_G A h y → ys_Q (K22 h y (a3 + 1))) (G : ys_G A h y) (H : ys_1 y A.nF) (hv : ∀ k, k < A.nF → y.1 142 k = if k < xs_no A 0 A.nF 0 then 1 else 0) : ∀ (m i fu : Nat), i + m = A.nF → m < fu → ys_Q (mL_law_b378 L xs K22 a3 a4 (xs_dg A) (nI A.nF) (nI (xs_no A 0 A.nF 0)) (nI (xs_no A 3 A.nF 0)) (nI (xs_no A 5 A.nF 0)) (A.a 9 0) fu h y (nI i)) := by
  obtain ⟨j, I, Wt, R, V⟩ := id G
  have w := I.1
  have h4 := w.1.1
  have h8 := w.1.2.1
  have b0 : xs_no A 0 A.nF 0 ≤ A.nF := xs_no_le A.nF 0
  have b3 : xs_no A 3 A.nF 0 ≤ A.nF := xs_no_le A.nF 0
  have b5 : xs_no A 5 A.nF 0 ≤ A.nF := xs_no_le A.nF 0
  intro m
  induction m with
  | zero =>
    intro i fu hi hf
    cases fu with
    | zero => omega
    | succ fu =>
      have e491 := lw_491 (L := L) (xs := xs) (a4 := a4) (y := y) hK A.nC 0 xo_n h G (by omega) (by show A.nC < 300; omega)
      have s480 : ∀ s, ys_Q (mL_law_b480 L xs K22 a3 a4 (xs_dg A) (nI A.nF) (nI (xs_no A 0 A.nF 0)) (nI (xs_no A 3 A.nF 0)) (nI (xs_no A 5 A.nF 0)) h y s s) := fun s => by
        unfold mL_law_b480
        rw [if_pos rfl]
        exact e491
      have hl := xd_line_no w
      have s468 : ∀ s, (nI (xs_no A 0 A.nF 0) = 0 → s = 1) → (¬ nI (xs_no A 0 A.nF 0) = 0 → s = 0) → ys_Q (mL_law_b468 L xs K22 a3 a4 (xs_dg A) (nI A.nF) (nI (xs_no A 0 A.nF 0)) (nI (xs_no A 3 A.nF 0)) (nI (xs_no A 5 A.nF 0)) h y s) := fun s s1 s0 => by
        unfold mL_law_b468
        rw [xs_cNext j, Option.bind_some]
        dsimp only
        rcases xd_nx w with ⟨z1, z2⟩ | ⟨f, l, hf2, z1, z2⟩
        · rw [z2, if_neg (by decide), s1 (by rw [← hl, z1]; rfl)]
          exact s480 1
        · rw [z2, if_pos (Int32.not_lt.mp (nI_pos (by omega))), s0 (fun z => by
            have := (xd_nI0 (by omega)).mp z
            rw [← hl, z1] at this
            cases this)]
          exact s480 0
      have s455 : ∀ s, ys_Q (mL_law_b455 L xs K22 a3 a4 (xs_dg A) (nI A.nF) (nI (xs_no A 0 A.nF 0)) (nI (xs_no A 3 A.nF 0)) (nI (xs_no A 5 A.nF 0)) h y s s) := fun s => by
        unfold mL_law_b455
        rw [if_pos rfl]
        by_cases z : nI (xs_no A 0 A.nF 0) = 0
        · rw [if_pos z]; exact s468 1 (fun _ => rfl) (fun q => absurd z q)
        · rw [if_neg z]; exact s468 0 (fun q => absurd q z) (fun _ => rfl)
      have hsp : xs_sp A ↔ xs_no A 0 A.nF 0 + xs_no A 3 A.nF 0 = 0 := by
        have q0 := (xs_no_0 (A := A) (s := 0) A.nF 0)
        have q3 := (xs_no_0 (A := A) (s := 3) A.nF 0)
        constructor
        · intro z
          have e0 := q0.mpr (fun f _ hf => (z f (by omega)).1)
          have e3 := q3.mpr (fun f _ hf => (z f (by omega)).2)
          omega
        · intro z f hf
          exact ⟨q0.mp (by omega) f (Nat.zero_le _) (by omega), q3.mp (by omega) f (Nat.zero_le _) (by omega)⟩
      have had := xs_no_ad A
      rw [mL_law_b378, if_pos (nI_le (by omega) (by omega)), xs_cDone j, Option.bind_some]
      dsimp only
      rw [if_pos rfl, xs_cTime j, Option.bind_some]
      dsimp only
      rw [if_pos rfl, xs_cIsStuck j, Option.bind_some]
      dsimp only
      rw [nI_add]
      unfold mL_law_b454
      by_cases z : nI (xs_no A 0 A.nF 0 + xs_no A 3 A.nF 0) = 0
      · have z0 := (xd_nI0 (by omega)).mp z
        rw [if_pos z]
        by_cases z5 : nI A.nF ≤ nI (xs_no A 5 A.nF 0)
        · have e5 : A.nF ≤ xs_no A 5 A.nF 0 := Nat.le_of_not_lt (fun q => nI_ge q (by omega) z5)
          rw [if_pos z5, xd_stv0 (fun q => q.2 (had.mp (by omega)))]
          exact s455 0
        · have e5 : ¬ xs_no A 5 A.nF 0 = A.nF := fun q => z5 (nI_le (by omega) (by omega))
          rw [if_neg z5, xd_stv1 ⟨hsp.mpr z0, fun q => e5 (had.mpr q)⟩]
          exact s455 1
      · rw [if_neg z, xd_stv0 (fun q => z (by rw [hsp.mp q.1]; rfl))]
        exact s455 0
  | succ m ih =>
    intro i fu hi hf
    cases fu with
    | zero => omega
    | succ fu =>
      have hg : i < A.nF := by omega
      have nx := ih (i + 1) fu (by omega) (by omega)
      rw [mL_law_b378, if_neg (nI_ge hg (by omega)), if_pos (H.g hg h8), nI_clamp (by omega), hv i hg]
      unfold mL_law_b402
      rw [nI_1]
      by_cases z : i < xs_no A 0 A.nF 0
      · rw [if_neg (nI_ge z (by omega)), if_pos z, if_pos rfl]
        exact nx
      · rw [if_pos (nI_le (by omega) (by omega)), if_neg z, if_pos rfl]
        exact nx
/-- which places of the line are taken, by the first i fibers -/
def ys_tk (A : xs_A) (i : Nat) (y : yz_Y) : Prop := ys_1 y A.nF ∧ ∀ k, k < A.nF → (y.1 142 k = 1 ∧ ∃ g, g < i ∧ k < (A.ls 0).length ∧ (A.ls 0).getD k 0 = nI g) ∨ (y.1 142 k = 0 ∧ ¬ ∃ g, g < i ∧ k < (A.ls 0).length ∧ (A.ls 0).getD k 0 = nI g)
/-- where fiber i stands -/
def xd_wh (A : xs_A) (i : Nat) (a : Int32) : Prop := (∃ k, k < (A.ls 0).length ∧ a = nI k ∧ (A.ls 0).getD k 0 = nI i ∧ A.a 1 i = 0) ∨ (nI i ∉ A.ls 0 ∧ a = -1 ∧ A.a 1 i ≠ 0)
theorem xd_wh_of (w : xs_W A 99) {i : Nat} (hi : i < A.nF) : xd_wh A i (xs_ff (nI i) (A.ls 0) 0) := by
  have h8 := w.1.2.1
  have hm : nI i ∈ A.ls 0 ↔ A.a 1 i = 0 := by
    refine ((w.2.2.2.2.2 0 (Or.inl rfl)).2 i hi).trans ?_
    unfold xs_A.at
    rw [if_pos rfl]
    exact ⟨fun z => z.1, fun z => ⟨z, by omega⟩⟩
  rcases xd_ff (x := nI i) (A.ls 0) 0 with ⟨k, k1, k2, k3⟩ | ⟨k1, k2⟩
  · rw [Nat.zero_add] at k2
    refine Or.inl ⟨k, k1, k2, k3, hm.mp ?_⟩
    rw [← k3, List.getD_eq_getElem?_getD, List.getElem?_eq_getElem k1]
    exact List.getElem_mem k1
  · exact Or.inr ⟨k1, k2, fun z => k1 (hm.mpr z)⟩
theorem xd_mem {l : List Int32} {k : Nat} {x : Int32} (hk : k < l.length) (e : l.getD k 0 = x) : x ∈ l := by
  rw [← e, List.getD_eq_getElem?_getD, List.getElem?_eq_getElem hk]
  exact List.getElem_mem hk
variable {K116 : xw_M → yz_Y → Int32 → Int32 → Int32 → Int32 → Int32 → Option (xw_M × yz_Y × Unit)}
theorem lw_264 (G : ys_G A h y) {i : Nat} (hi : i < A.nF) (T : ys_tk A i y) {a8 a9 a10 a11 a15 : Int32} (p : xd_wh A i a15) : ∃ h' y', mL_law_b264 L xs K116 K22 a3 a4 (xs_dg A) (nI A.nF) a8 a9 a10 a11 (nI i) (A.a 1 i) a15 (nI (A.sc i)) h y = K116 h' y' a8 a9 a10 a11 (nI (i + 1)) ∧ ys_G A h' y' ∧ ys_tk A (i + 1) y' := by
  obtain ⟨j, I, Wt, R, V⟩ := id G
  have w := I.1
  have h8 := w.1.2.1
  have hl8 := w.line8
  obtain ⟨p1, p2, p3⟩ := w.pl hi
  obtain ⟨q1, q2, _⟩ := I.2.2.1.1 i hi
  obtain ⟨h1, c1, c2, _⟩ := xs_c_turnsUntilDone j w I.2.1 hi
  have G1 := G.heap c2
  obtain ⟨u1, u2, u3⟩ := xd_udv0 (A := A) (p := fun P => P.a 1 i = 5)
  have nd := (w.2.2.2.2.2 0 (Or.inl rfl)).1.1
  obtain ⟨H, hT⟩ := T
  have s353 : ∀ s, ∃ h' y', mL_law_b353 L xs K116 K22 a3 a4 (xs_dg A) (nI A.nF) a8 a9 a10 a11 (nI i) a15 h1 y s s = K116 h' y' a8 a9 a10 a11 (nI (i + 1)) ∧ ys_G A h' y' ∧ ys_tk A (i + 1) y' := fun s => by
    unfold mL_law_b353 mL_law_b369
    rw [if_pos rfl]
    rcases p with ⟨k, k1, e, k3, k4⟩ | ⟨k1, e, k4⟩
    · have hkF : k < A.nF := Nat.lt_of_lt_of_le k1 (by rw [xd_line_no w]; exact xs_no_le A.nF 0)
      rw [e, if_neg (nI_pos (by omega)), if_pos (H.g hkF h8), nI_clamp (by omega), xo_let_eq, nI_1]
      refine ⟨h1, _, rfl, G1.st (by omega), H, fun k' hk' => ?_⟩
      by_cases ek : k' = k
      · subst ek
        exact Or.inl ⟨yz_st_v, i, by omega, k1, k3⟩
      · have e1 : (yz_st y 142 k 1).1 142 k' = y.1 142 k' := yz_st_at (fun z => ek z.2)
        rw [e1]
        rcases hT k' hk' with ⟨t1, g, t2, t3⟩ | ⟨t1, t2⟩
        · exact Or.inl ⟨t1, g, by omega, t3⟩
        · refine Or.inr ⟨t1, fun ⟨g, g1, g2, g3⟩ => ?_⟩
          by_cases eg : g = i
          · exact ek (xd_nd nd g2 k1 (by rw [g3, k3, eg]))
          · exact t2 ⟨g, by omega, g2, g3⟩
    · rw [e, if_pos (by decide), nI_1]
      refine ⟨h1, y, rfl, G1, H, fun k' hk' => ?_⟩
      rcases hT k' hk' with ⟨t1, g, t2, t3⟩ | ⟨t1, t2⟩
      · exact Or.inl ⟨t1, g, by omega, t3⟩
      · refine Or.inr ⟨t1, fun ⟨g, g1, g2, g3⟩ => ?_⟩
        by_cases eg : g = i
        · exact k1 (xd_mem g2 (by rw [g3, eg]))
        · exact t2 ⟨g, by omega, g2, g3⟩
  have s342 : ∀ s, (A.a 1 i = 5 → s = 1) → (¬ A.a 1 i = 5 → s = 0) → ∃ h' y', mL_law_b342 L xs K116 K22 a3 a4 (xs_dg A) (nI A.nF) a8 a9 a10 a11 (nI i) (A.a 1 i) a15 h1 y s = K116 h' y' a8 a9 a10 a11 (nI (i + 1)) ∧ ys_G A h' y' ∧ ys_tk A (i + 1) y' := fun s s1 s0 => by
    unfold mL_law_b342
    by_cases z : A.a 1 i = 5
    · rw [if_pos z, s1 z]; exact s353 1
    · rw [if_neg z, s0 z]; exact s353 0
  have s325 : ∀ s, ∃ h' y', mL_law_b325 L xs K116 K22 a3 a4 (xs_dg A) (nI A.nF) a8 a9 a10 a11 (nI i) (A.a 1 i) a15 h y s s = K116 h' y' a8 a9 a10 a11 (nI (i + 1)) ∧ ys_G A h' y' ∧ ys_tk A (i + 1) y' := fun s => by
    unfold mL_law_b325
    rw [if_pos rfl, c1, Option.bind_some]
    dsimp only
    rw [if_pos rfl]
    by_cases z : A.a 1 i = 5
    · rw [if_pos (u1 z)]; exact s342 1 (fun _ => rfl) (fun q => absurd z q)
    · rw [if_neg (u2 z)]; exact s342 0 (fun q => absurd q z) (fun _ => rfl)
  have hhd : a15 = 0 ↔ xs_nx A = nI i := by
    rcases xd_nx w with ⟨z1, z2⟩ | ⟨f, l, hf2, z1, z2⟩
    · rw [z2]
      rcases p with ⟨k, k1, _⟩ | ⟨_, e, _⟩
      · rw [z1] at k1; cases k1
      · rw [e]
        exact ⟨fun z => absurd z (by decide), fun z => absurd z (xd_nIm (by omega))⟩
    · rw [z2]
      rcases p with ⟨k, k1, e, k3, _⟩ | ⟨k1, e, _⟩
      · rw [e, xd_nI0 (by omega)]
        constructor
        · intro z
          rw [z, z1] at k3
          exact k3
        · intro z
          exact xd_nd nd k1 (by rw [z1]; show 0 < l.length + 1; omega) (by rw [k3, z1]; exact z.symm)
      · rw [e]
        exact ⟨fun z => absurd z (by decide), fun z => absurd (by rw [z1, z]; exact List.mem_cons_self) k1⟩
  have s301 : ∃ h' y', mL_law_b301 L xs K116 K22 a3 a4 (xs_dg A) (nI A.nF) a8 a9 a10 a11 (nI i) (A.a 1 i) a15 h y = K116 h' y' a8 a9 a10 a11 (nI (i + 1)) ∧ ys_G A h' y' ∧ ys_tk A (i + 1) y' := by
    unfold mL_law_b301
    by_cases z : a15 = 0
    · rw [if_pos z]
      unfold mL_law_b311
      rw [xs_cNext j, Option.bind_some]
      dsimp only
      rw [if_pos (hhd.mp z)]
      exact s325 1
    · rw [if_neg z]
      unfold mL_law_b311
      rw [xs_cNext j, Option.bind_some]
      dsimp only
      rw [if_neg (fun q => z (hhd.mpr q))]
      exact s325 0
  have hp : mX5_placeOf 350 (nI i) h = some (h, nI (A.pl i), 0) := by rw [xs_c_placeOf j hi, p1]
  unfold mL_law_b264
  rw [hp, Option.bind_some]
  dsimp only
  rw [if_pos rfl, if_neg (nI_pos (by omega)), hp, Option.bind_some]
  dsimp only
  rw [if_pos rfl, if_neg (nI_nlt p2 (by omega))]
  by_cases z : A.a 1 i = 5
  · rw [if_pos z, hp, Option.bind_some]
    dsimp only
    rw [if_pos rfl, if_pos (by rw [q2 z])]
    exact s301
  · rw [if_neg z]
    exact s301
theorem xd_noI {s : Int32} {i : Nat} : (A.a 1 i = s → nI (xs_no A s i 0) + 1 = nI (xs_no A s (i + 1) 0)) ∧ (¬ A.a 1 i = s → nI (xs_no A s i 0) + 0 = nI (xs_no A s (i + 1) 0)) := by
  rw [xd_no_end]
  exact ⟨fun z => by rw [if_pos z, nI_1], fun z => by rw [if_neg z, Int32.add_zero]; rfl⟩
theorem lw_196 (G : ys_G A h y) {i : Nat} (hi : i < A.nF) (T : ys_tk A i y) {a8 a9 a11 s t : Int32} : ∃ h' y', mL_law_b196 L xs K116 K22 a3 a4 (xs_dg A) (nI A.nF) a8 a9 a11 (nI i) (A.a 1 i) (xs_ff (nI i) (A.ls 0) 0) (nI (A.sc i)) h y s t = K116 h' y' a8 a9 (t + s) (a11 + A.a 5 i) (nI (i + 1)) ∧ ys_G A h' y' ∧ ys_tk A (i + 1) y' := by
  obtain ⟨j, I, Wt, R, V⟩ := id G
  have w := I.1
  have h8 := w.1.2.1
  have p := xd_wh_of w hi
  generalize xs_ff (nI i) (A.ls 0) 0 = a15 at p
  obtain ⟨⟨q, q1, q2⟩, _⟩ := I.2.2.1.1 i hi
  have fin := lw_264 (L := L) (xs := xs) (K22 := K22) (a3 := a3) (a4 := a4) (K116 := K116) (a8 := a8) (a9 := a9) (a10 := t + s) (a11 := a11 + A.a 5 i) G hi T p
  have s241 : ∀ u, ∃ h' y', mL_law_b241 L xs K116 K22 a3 a4 (xs_dg A) (nI A.nF) a8 a9 (t + s) (a11 + A.a 5 i) (nI i) (A.a 1 i) a15 (nI (A.sc i)) h y u u = K116 h' y' a8 a9 (t + s) (a11 + A.a 5 i) (nI (i + 1)) ∧ ys_G A h' y' ∧ ys_tk A (i + 1) y' := fun u => by
    unfold mL_law_b241
    rw [if_pos rfl]
    rcases p with ⟨k, k1, e, k3, k4⟩ | ⟨k1, e, k4⟩
    · have hkF : k < A.nF := Nat.lt_of_lt_of_le k1 (by rw [xd_line_no w]; exact xs_no_le A.nF 0)
      have nd := (w.2.2.2.2.2 0 (Or.inl rfl)).1.1
      have e0 : y.1 142 k = 0 := by
        rcases T.2 k hkF with ⟨_, g, t2, t3, t4⟩ | ⟨t1, _⟩
        · have := xs_inj (by omega) (by omega) (t4.symm.trans k3)
          omega
        · exact t1
      rw [if_neg (by rw [e]; exact nI_ge hkF (by omega)), if_neg (by rw [e]; exact nI_pos (by omega)), if_pos (by rw [e]; exact T.1.g hkF h8), if_pos (by rw [e, nI_clamp (by omega)]; exact e0)]
      exact fin
    · rw [if_neg (show ¬ nI A.nF ≤ a15 by
        rw [e]
        intro z
        have := Int32.le_iff_toInt_le.mp z
        rw [nI_toInt (by omega), show (-1 : Int32).toInt = -1 from rfl] at this
        omega), if_pos (by rw [e]; decide)]
      exact fin
  have s231 : ∀ u, (A.a 1 i = 0 → u = 1) → (¬ A.a 1 i = 0 → u = 0) → ∃ h' y', mL_law_b231 L xs K116 K22 a3 a4 (xs_dg A) (nI A.nF) a8 a9 (t + s) (a11 + A.a 5 i) (nI i) (A.a 1 i) a15 (nI (A.sc i)) h y u = K116 h' y' a8 a9 (t + s) (a11 + A.a 5 i) (nI (i + 1)) ∧ ys_G A h' y' ∧ ys_tk A (i + 1) y' := fun u u1 u0 => by
    unfold mL_law_b231
    rcases id p with ⟨k, k1, e, k3, k4⟩ | ⟨k1, e, k4⟩
    · have := w.line8
      rw [if_neg (by rw [e]; exact nI_pos (by omega)), u1 k4]
      exact s241 1
    · rw [if_pos (by rw [e]; decide), u0 k4]
      exact s241 0
  unfold mL_law_b196
  rw [xs_c_turnsOf j hi, Option.bind_some]
  dsimp only
  rw [if_pos rfl, if_neg (by rw [q2]; exact nI_pos (by omega)), if_neg (show ¬ (5 : Int32) < A.a 1 i by rw [q2, show (5 : Int32) = nI 5 from rfl]; exact nI_nlt q1 (by omega))]
  by_cases z : A.a 1 i = 0
  · rw [if_pos z]; exact s231 1 (fun _ => rfl) (fun q => absurd z q)
  · rw [if_neg z]; exact s231 0 (fun q => absurd q z) (fun _ => rfl)
theorem lw_116 (hK : ∀ A h y, ys_G A h y → ys_Q (K22 h y (a3 + 1))) : ∀ (m i fu : Nat) (h : xw_M) (y : yz_Y), ys_G A h y → ys_tk A i y → i + m = A.nF → m < fu → ys_Q (mL_law_b116 L xs K22 a3 a4 (xs_dg A) (nI A.nF) fu h y (nI (xs_no A 0 i 0)) (nI (xs_no A 3 i 0)) (nI (xs_no A 5 i 0)) (xs_sm A i 0 (A.a 10 0)) (nI i)) := by
  intro m
  induction m with
  | zero =>
    intro i fu h y G T hi hf
    cases fu with
    | zero => omega
    | succ fu =>
      have I := G.2.1
      have w := I.1
      have h8 := w.1.2.1
      have e : i = A.nF := by omega
      subst e
      have hT : xs_sm A A.nF 0 (A.a 10 0) = A.a 9 0 := I.2.2.2
      rw [mL_law_b116, if_pos (Int32.le_refl _), hT]
      refine lw_378 hK G T.1 (fun k hk => ?_) A.nF 0 xo_n (by omega) (by show A.nF < 300; omega)
      have hl := xd_line_no w
      rcases T.2 k hk with ⟨t1, g, t2, t3, t4⟩ | ⟨t1, t2⟩
      · rw [t1, if_pos (by rw [← hl]; exact t3)]
      · rw [t1, if_neg (fun z => t2 ?_)]
        rw [← hl] at z
        obtain ⟨g, hg, e⟩ := (w.2.2.2.2.2 0 (Or.inl rfl)).1.2 _ (xd_mem z rfl)
        exact ⟨g, hg, z, e⟩
  | succ m ih =>
    intro i fu h y G T hi hf
    cases fu with
    | zero => omega
    | succ fu =>
      obtain ⟨j, I, Wt, R, V⟩ := id G
      have w := I.1
      have h8 := w.1.2.1
      have hg : i < A.nF := by omega
      have esm : xs_sm A i 0 (A.a 10 0) + A.a 5 i = xs_sm A (i + 1) 0 (A.a 10 0) := by rw [xd_sm_end, Nat.zero_add]
      have s196 : ∀ s, (nI (xs_no A 5 i 0) + s = nI (xs_no A 5 (i + 1) 0)) → ys_Q (mL_law_b196 L xs (mL_law_b116 L xs K22 a3 a4 (xs_dg A) (nI A.nF) fu) K22 a3 a4 (xs_dg A) (nI A.nF) (nI (xs_no A 0 (i + 1) 0)) (nI (xs_no A 3 (i + 1) 0)) (xs_sm A i 0 (A.a 10 0)) (nI i) (A.a 1 i) (xs_ff (nI i) (A.ls 0) 0) (nI (A.sc i)) h y s (nI (xs_no A 5 i 0))) := fun s es => by
        obtain ⟨h1, y1, e, G1, T1⟩ := lw_196 (L := L) (xs := xs) (K22 := K22) (a3 := a3) (a4 := a4) (K116 := mL_law_b116 L xs K22 a3 a4 (xs_dg A) (nI A.nF) fu) (a8 := nI (xs_no A 0 (i + 1) 0)) (a9 := nI (xs_no A 3 (i + 1) 0)) (a11 := xs_sm A i 0 (A.a 10 0)) (s := s) (t := nI (xs_no A 5 i 0)) G hg T
        rw [e, es, esm]
        exact ih (i + 1) fu h1 y1 G1 T1 (by omega) (by omega)
      have s180 : ∀ s, (nI (xs_no A 3 i 0) + s = nI (xs_no A 3 (i + 1) 0)) → ys_Q (mL_law_b180 L xs (mL_law_b116 L xs K22 a3 a4 (xs_dg A) (nI A.nF) fu) K22 a3 a4 (xs_dg A) (nI A.nF) (nI (xs_no A 0 (i + 1) 0)) (nI (xs_no A 5 i 0)) (xs_sm A i 0 (A.a 10 0)) (nI i) (A.a 1 i) (xs_ff (nI i) (A.ls 0) 0) (nI (A.sc i)) h y s (nI (xs_no A 3 i 0))) := fun s es => by
        unfold mL_law_b180
        rw [es]
        by_cases z : A.a 1 i = 5
        · rw [if_pos z]; exact s196 1 (xd_noI.1 z)
        · rw [if_neg z]; exact s196 0 (xd_noI.2 z)
      have s164 : ∀ s, (nI (xs_no A 0 i 0) + s = nI (xs_no A 0 (i + 1) 0)) → ys_Q (mL_law_b164 L xs (mL_law_b116 L xs K22 a3 a4 (xs_dg A) (nI A.nF) fu) K22 a3 a4 (xs_dg A) (nI A.nF) (nI (xs_no A 3 i 0)) (nI (xs_no A 5 i 0)) (xs_sm A i 0 (A.a 10 0)) (nI i) (A.a 1 i) (xs_ff (nI i) (A.ls 0) 0) (nI (A.sc i)) h y s (nI (xs_no A 0 i 0))) := fun s es => by
        unfold mL_law_b164
        rw [es]
        by_cases z : A.a 1 i = 3
        · rw [if_pos z]; exact s180 1 (xd_noI.1 z)
        · rw [if_neg z]; exact s180 0 (xd_noI.2 z)
      rw [mL_law_b116, if_neg (nI_ge hg (by omega)), xs_c_stateOf j hg, Option.bind_some]
      dsimp only
      rw [if_pos rfl, xs_c_placeInLine j hg, Option.bind_some]
      dsimp only
      rw [if_pos rfl, if_pos (R.ixF w.1 hg), nI_clamp (by omega), if_pos (R.isF w.1 hg), if_pos (R.isT w.1 hg), (R.2.2.2.2.2.2.1 i hg).1]
      by_cases z : A.a 1 i = 0
      · rw [if_pos z]; exact s164 1 (xd_noI.1 z)
      · rw [if_neg z]; exact s164 0 (xd_noI.2 z)
theorem lw_45 (hK : ∀ A h y, ys_G A h y → ys_Q (K22 h y (a3 + 1))) : ∀ (m k fu : Nat) (A : xs_A) (h : xw_M) (y : yz_Y), ys_G A h y → k + m = 4 → m < fu → ys_Q (mL_law_b45 L xs K22 a3 a4 fu h y (nI k)) := by
  intro m
  induction m with
  | zero =>
    intro k fu A h y G hk hf
    cases fu with
    | zero => omega
    | succ fu =>
      have w := G.2.1.1
      have h8 := w.1.2.1
      obtain ⟨h1, d1, d2, _⟩ := xs_cDg G.1 w G.2.1.2.1
      have G1 := G.heap d2
      rw [mL_law_b45, if_pos (by rw [xs_e4]; exact nI_le (by omega) (by omega)), d1, Option.bind_some]
      dsimp only
      rw [if_pos rfl, xs_cFibers d2, Option.bind_some]
      dsimp only
      rw [xs_cIdle d2, Option.bind_some]
      dsimp only
      rw [if_pos (xs_ix (i := A.nF) (by omega) (by omega)), xo_let_eq, nI_clamp (by omega)]
      exact lw_116 (A := A) hK A.nF 0 xo_n h1 _ (G1.nw (by omega)) ⟨⟨rfl, rfl⟩, fun k hk => Or.inr ⟨rfl, fun ⟨g, g1, _⟩ => absurd g1 (Nat.not_lt_zero _)⟩⟩ (by omega) (by show A.nF < 300; omega)
  | succ m ih =>
    intro k fu A h y G hk hf
    cases fu with
    | zero => omega
    | succ fu =>
      obtain ⟨A1, h1, y1, q1, q2⟩ := ys_act G ((a4 >>> (((3 : Int32) * nI k) &&& 31)) + ((29 : Int32) * nI k))
      rw [mL_law_b45, if_neg (by rw [xs_e4]; exact nI_ge (by omega) (by omega)), q1, Option.bind_some]
      dsimp only
      rw [if_neg (by decide), nI_1]
      exact ih (k + 1) fu A1 h1 y1 q2 (by omega) (by omega)
theorem lw_22 (hL : L < 2 ^ 31) : ∀ (m t fu : Nat) (A : xs_A) (h : xw_M) (y : yz_Y), ys_G A h y → t + m = 6 → m < fu → ys_Q (mL_law_b22 L xs fu h y (nI t)) := by
  intro m
  induction m with
  | zero =>
    intro t fu A h y G ht hf
    cases fu with
    | zero => omega
    | succ fu => exact ⟨A, h, y, by rw [mL_law_b22, if_pos (show (6 : Int32) ≤ nI t from nI_le (a := 6) (by omega) (by omega))], G⟩
  | succ m ih =>
    intro t fu A h y G ht hf
    cases fu with
    | zero => omega
    | succ fu =>
      obtain ⟨v, ev⟩ := ys_cell (y := y) (xs := xs) hL (a := t) (by omega)
      rw [mL_law_b22, if_neg (show ¬ (6 : Int32) ≤ nI t from nI_ge (b := 6) (by omega) (by omega)), ev, Option.bind_some]
      dsimp only
      refine lw_45 (fun A h y G => ?_) 4 0 5 A h y G (by omega) (by omega)
      rw [nI_1]
      exact ih (t + 1) fu A h y G (by omega) (by omega)
theorem lw_all (hL : L < 2 ^ 31) (G : ys_G A h y) : ys_Q (mL_law L xs h y) := lw_22 hL 6 0 7 A h y G (by omega) (by omega)
end LG
