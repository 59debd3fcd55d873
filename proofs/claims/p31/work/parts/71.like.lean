/-! the trial becomes like the real clock -/
section BL
theorem xs_ofk {h : xw_M} {k j : Nat} {v : Int32} : xs_off (fun c => c = k) h (xw_st h k j v) := xs_off.st (P := fun c => c = k) rfl
theorem xs_stf (g : xw_M) (k j : Nat) (v : Int32) (j' : Nat) : xw_st g k j v k j' = if j' = j then v else g k j' := by rw [xw_st_eq]; rfl
theorem xs_lk4 {k0 k1 : Nat} (hk : k1 ≠ k0) (h : xw_M) : ∃ h', mX4_becomeLike k0 k1 h = some (h', ()) ∧ (∀ q, q < 4 → h' k0 q = h k1 q) ∧ xs_off (fun c => c = k0) h h' := by
  have e : ∀ (g : xw_M) (j : Nat) (v : Int32), xw_st g k0 j v k1 = g k1 := fun g j v => xw_st_ne g k0 j v hk
  unfold mX4_becomeLike xo_let
  dsimp only
  simp only [e]
  refine ⟨_, rfl, fun q hq => ?_, ((xs_ofk).tr (xs_ofk)).tr ((xs_ofk).tr (xs_ofk))⟩
  rcases (show q = 0 ∨ q = 1 ∨ q = 2 ∨ q = 3 by omega) with rfl | rfl | rfl | rfl <;> simp [xs_stf]
def xs_c7 (h : xw_M) (k0 k1 : Nat) : xw_M := xw_st (xw_st (xw_st (xw_st (xw_st (xw_st (xw_st h k0 1 (h k1 1)) k0 2 (h k1 2)) k0 3 (h k1 3)) k0 4 (h k1 4)) k0 5 (h k1 5)) k0 6 (h k1 6)) k0 7 (h k1 7)
theorem xs_c7_0 {h : xw_M} {k0 k1 : Nat} : xs_c7 h k0 k1 k0 0 = h k0 0 := by
  unfold xs_c7
  simp [xs_stf]
theorem xs_c7_k {h : xw_M} {k0 k1 t : Nat} (h1 : 1 ≤ t) (h2 : t ≤ 7) : xs_c7 h k0 k1 k0 t = h k1 t := by
  unfold xs_c7
  rcases (show t = 1 ∨ t = 2 ∨ t = 3 ∨ t = 4 ∨ t = 5 ∨ t = 6 ∨ t = 7 by omega) with rfl | rfl | rfl | rfl | rfl | rfl | rfl <;> simp [xs_stf]
theorem xs_c7_off {h : xw_M} {k0 k1 : Nat} : xs_off (fun c => c = k0) h (xs_c7 h k0 k1) := (((((((xs_ofk).tr (xs_ofk)).tr (xs_ofk)).tr (xs_ofk)).tr (xs_ofk)).tr (xs_ofk)).tr (xs_ofk))
theorem xs_lk2L {k0 k1 s : Nat} (hk : k1 + 15 ≤ k0) (hs : s ≤ 12) : ∀ (m i n : Nat) (h : xw_M), i + m = s → m < n → h k0 7 = nI s → ∃ h', mX2_becomeLike_b58 k0 k1 n h (nI i) = some (h', ()) ∧ (∀ j q, i ≤ j → j < s → q < 4 → h' (k0 + 2 + j) q = h (k1 + 2 + j) q) ∧ xs_off (fun c => ∃ j, i ≤ j ∧ j < s ∧ c = k0 + 2 + j) h h' := by
  intro m
  induction m with
  | zero =>
    intro i n h hi hn h7
    cases n with
    | zero => omega
    | succ n =>
      unfold mX2_becomeLike_b58
      rw [if_pos (by rw [h7]; exact nI_le (by omega) (by omega))]
      exact ⟨h, rfl, fun j q h1 h2 => absurd h2 (by omega), xs_off.rf⟩
  | succ m ih =>
    intro i n h hi hn h7
    cases n with
    | zero => omega
    | succ n =>
      unfold mX2_becomeLike_b58
      rw [if_neg (by rw [h7]; exact nI_ge (by omega) (by omega)), xs_stepAt (by omega), Option.bind_some]
      dsimp only
      rw [xs_stepAt (by omega), Option.bind_some]
      dsimp only
      obtain ⟨h1, e1, c1, o1⟩ := xs_lk4 (k0 := k0 + 2 + i) (k1 := k1 + 2 + i) (by omega) h
      rw [e1, Option.bind_some, nI_1]
      obtain ⟨h2, e2, c2, o2⟩ := ih (i + 1) n h1 (by omega) (by omega) (by rw [o1 k0 (by show ¬ k0 = k0 + 2 + i; omega)]; exact h7)
      refine ⟨h2, e2, fun j q hj1 hj2 hq => ?_, (o1.mono (fun c hc => ⟨i, Nat.le_refl _, by omega, hc⟩)).tr (o2.mono (fun c hc => ?_))⟩
      · by_cases e : j = i
        · rw [e, o2 (k0 + 2 + i) (by rintro ⟨j', a, b, c⟩; omega)]
          exact c1 q hq
        · rw [c2 j q (by omega) hj2 hq, o1 (k1 + 2 + j) (by show ¬ k1 + 2 + j = k0 + 2 + i; omega)]
      · obtain ⟨j', a, b, c'⟩ := hc
        exact ⟨j', by omega, b, c'⟩
theorem xs_lk2 {k0 k1 s : Nat} (hk : k1 + 15 ≤ k0) (hs : s ≤ 12) {h : xw_M} (h7 : h k1 7 = nI s) : ∃ h', mX2_becomeLike k0 k1 h = some (h', ()) ∧ h' k0 0 = h k0 0 ∧ (∀ t, 1 ≤ t → t ≤ 7 → h' k0 t = h k1 t) ∧ (∀ j q, j < s → q < 4 → h' (k0 + 2 + j) q = h (k1 + 2 + j) q) ∧ xs_off (fun c => c = k0 ∨ ∃ j, j < s ∧ c = k0 + 2 + j) h h' := by
  have e : ∀ (g : xw_M) (j : Nat) (v : Int32), xw_st g k0 j v k1 = g k1 := fun g j v => xw_st_ne g k0 j v (by omega)
  unfold mX2_becomeLike xo_let
  dsimp only
  simp only [e]
  show ∃ h', mX2_becomeLike_b58 k0 k1 xo_n (xs_c7 h k0 k1) 0 = some (h', ()) ∧ _
  have o0 := xs_c7_off (h := h) (k0 := k0) (k1 := k1)
  obtain ⟨h1, e1, c1, o1⟩ := xs_lk2L hk hs s 0 xo_n (xs_c7 h k0 k1) (by omega) (by show s < 300; omega) (by rw [xs_c7_k (by omega) (by omega)]; exact h7)
  refine ⟨h1, e1, ?_, fun t ht1 ht2 => ?_, fun j q hj hq => ?_, (o0.mono (fun c hc => Or.inl hc)).tr (o1.mono (fun c hc => Or.inr ?_))⟩
  · rw [o1 k0 (by rintro ⟨j', a, b, c⟩; omega), xs_c7_0]
  · rw [o1 k0 (by rintro ⟨j', a, b, c⟩; omega), xs_c7_k ht1 ht2]
  · rw [c1 j q (by omega) hj hq, o0 (k1 + 2 + j) (by show ¬ k1 + 2 + j = k0; omega)]
  · obtain ⟨j', a, b, c'⟩ := hc
    exact ⟨j', b, c'⟩
theorem xs_lk1F {nF : Nat} {sc : Nat → Nat} (h8 : nF ≤ 8) (h12 : ∀ f, f < nF → sc f ≤ 12) : ∀ (m i n : Nat) (h : xw_M), i + m = nF → m < n → h 175 6 = nI nF → (∀ f, f < nF → h (0 + 40 + 15 * f) 7 = nI (sc f)) → ∃ h', mX1_becomeLike_b74 175 0 n h (nI i) = some (h', ()) ∧ (∀ f, i ≤ f → f < nF → h' (175 + 40 + 15 * f) 0 = h (175 + 40 + 15 * f) 0 ∧ (∀ t, 1 ≤ t → t ≤ 7 → h' (175 + 40 + 15 * f) t = h (0 + 40 + 15 * f) t) ∧ ∀ j q, j < sc f → q < 4 → h' (175 + 40 + 15 * f + 2 + j) q = h (0 + 40 + 15 * f + 2 + j) q) ∧ xs_off (fun c => ∃ f, i ≤ f ∧ f < nF ∧ (c = 175 + 40 + 15 * f ∨ ∃ j, j < sc f ∧ c = 175 + 40 + 15 * f + 2 + j)) h h' := by
  intro m
  induction m with
  | zero =>
    intro i n h hi hn h6 h7
    cases n with
    | zero => omega
    | succ n =>
      unfold mX1_becomeLike_b74
      rw [if_pos (by rw [h6]; exact nI_le (by omega) (by omega))]
      exact ⟨h, rfl, fun f h1 h2 => absurd h2 (by omega), xs_off.rf⟩
  | succ m ih =>
    intro i n h hi hn h6 h7
    cases n with
    | zero => omega
    | succ n =>
      have hi2 : i < nF := by omega
      have hs12 := h12 i hi2
      unfold mX1_becomeLike_b74
      rw [if_neg (by rw [h6]; exact nI_ge (by omega) (by omega)), xs_fiberAt (by omega), Option.bind_some]
      dsimp only
      rw [xs_fiberAt (by omega), Option.bind_some]
      dsimp only
      obtain ⟨h1, e1, z1, c1, d1, o1⟩ := xs_lk2 (k0 := 175 + 40 + 15 * i) (k1 := 0 + 40 + 15 * i) (by omega) hs12 (h := h) (h7 i hi2)
      rw [e1, Option.bind_some, nI_1]
      have low : ∀ x, x < 215 → h1 x = h x := fun x hx => o1 x (by rintro (z | ⟨j, a, b⟩) <;> omega)
      obtain ⟨h2, e2, c2, o2⟩ := ih (i + 1) n h1 (by omega) (by omega) (by rw [low 175 (by omega)]; exact h6) (fun f hf => by rw [low _ (by omega)]; exact h7 f hf)
      refine ⟨h2, e2, fun f hf1 hf2 => ?_, (o1.mono (fun c hc => ⟨i, Nat.le_refl _, hi2, hc⟩)).tr (o2.mono (fun c hc => ?_))⟩
      · by_cases e : f = i
        · rw [e]
          refine ⟨?_, fun t ht1 ht2 => ?_, fun j q hj hq => ?_⟩
          · rw [o2 _ (by rintro ⟨f', a, b, z | ⟨j, c, d⟩⟩ <;> omega)]
            exact z1
          · rw [o2 _ (by rintro ⟨f', a, b, z | ⟨j, c, d⟩⟩ <;> omega)]
            exact c1 t ht1 ht2
          · rw [o2 _ (by rintro ⟨f', a, b, z | ⟨j, c, d⟩⟩ <;> omega)]
            exact d1 j q hj hq
        · obtain ⟨k1, k2, k3⟩ := c2 f (by omega) hf2
          have hs13 := h12 f hf2
          refine ⟨?_, fun t ht1 ht2 => ?_, fun j q hj hq => ?_⟩
          · rw [k1, o1 _ (by rintro (z | ⟨j, c, d⟩) <;> omega)]
          · rw [k2 t ht1 ht2, low _ (by omega)]
          · rw [k3 j q hj hq, low _ (by omega)]
      · obtain ⟨f', a, b, c'⟩ := hc
        exact ⟨f', by omega, b, c'⟩
theorem xs_lk0 {k0 k1 : Nat} (hk : k1 + 7 ≤ k0) {h : xw_M} {l1 l3 l5 : List Int32} (q1 : xs_Q h (k1 + 1) l1) (q3 : xs_Q h (k1 + 3) l3) (q5 : xs_Q h (k1 + 5) l5) : ∃ h', mX0_becomeLike k0 k1 h = some (h', ()) ∧ h' k0 0 = h k1 0 ∧ xs_Q h' (k0 + 1) l1 ∧ xs_Q h' (k0 + 3) l3 ∧ xs_Q h' (k0 + 5) l5 ∧ xs_off (fun c => k0 ≤ c ∧ c ≤ k0 + 6) h h' := by
  unfold mX0_becomeLike xo_let
  dsimp only
  have o0 : xs_off (fun c => c = k0) h (xw_st h k0 0 (h k1 0)) := xs_ofk
  have e0 : xw_st h k0 0 (h k1 0) k0 0 = h k1 0 := xw_stE
  generalize xw_st h k0 0 (h k1 0) = h1 at o0 e0 ⊢
  have p1 := q1.off o0 (by show ¬ k1 + 1 = k0; omega) (by show ¬ k1 + 1 + 1 = k0; omega)
  have p3 := q3.off o0 (by show ¬ k1 + 3 = k0; omega) (by show ¬ k1 + 3 + 1 = k0; omega)
  have p5 := q5.off o0 (by show ¬ k1 + 5 = k0; omega) (by show ¬ k1 + 5 + 1 = k0; omega)
  obtain ⟨h2, e2, r1, o2⟩ := xs_like (k0 := k0 + 1) (k1 := k1 + 1) ⟨by unfold xs_kQ; omega, by unfold xs_kQ; omega⟩ p1
  have p3 := p3.off o2 (by unfold xs_kQ; omega) (by unfold xs_kQ; omega)
  have p5 := p5.off o2 (by unfold xs_kQ; omega) (by unfold xs_kQ; omega)
  obtain ⟨h3, e3, r3, o3⟩ := xs_like (k0 := k0 + 3) (k1 := k1 + 3) ⟨by unfold xs_kQ; omega, by unfold xs_kQ; omega⟩ p3
  have p5 := p5.off o3 (by unfold xs_kQ; omega) (by unfold xs_kQ; omega)
  obtain ⟨h4, e4, r5, o4⟩ := xs_like (k0 := k0 + 5) (k1 := k1 + 5) ⟨by unfold xs_kQ; omega, by unfold xs_kQ; omega⟩ p5
  rw [e2, Option.bind_some]
  dsimp only
  rw [e3, Option.bind_some]
  dsimp only
  rw [e4, Option.bind_some]
  refine ⟨h4, rfl, ?_, ?_, ?_, r5, (((o0.mono (fun c hc => ?_)).tr (o2.mono (fun c hc => ?_))).tr (o3.mono (fun c hc => ?_))).tr (o4.mono (fun c hc => ?_))⟩
  · rw [o4 k0 (by unfold xs_kQ; omega), o3 k0 (by unfold xs_kQ; omega), o2 k0 (by unfold xs_kQ; omega), e0]
  · exact (r1.off o3 (by unfold xs_kQ; omega) (by unfold xs_kQ; omega)).off o4 (by unfold xs_kQ; omega) (by unfold xs_kQ; omega)
  · exact r3.off o4 (by unfold xs_kQ; omega) (by unfold xs_kQ; omega)
  · have hc : c = k0 := hc
    omega
  · unfold xs_kQ at hc; omega
  · unfold xs_kQ at hc; omega
  · unfold xs_kQ at hc; omega
theorem xs_lk1C {nC : Nat} {d s t : Nat → List Int32} (h4 : nC ≤ 4) : ∀ (m i n : Nat) (h : xw_M), i + m = nC → m < n → h 175 5 = nI nC → (∀ c, c < nC → xs_Q h (0 + 5 + 7 * c + 1) (d c) ∧ xs_Q h (0 + 5 + 7 * c + 3) (s c) ∧ xs_Q h (0 + 5 + 7 * c + 5) (t c)) → ∃ h', mX1_becomeLike_b45 175 0 n h (nI i) = mX1_becomeLike_b74 175 0 xo_n h' (nI 0) ∧ (∀ c, i ≤ c → c < nC → h' (175 + 5 + 7 * c) 0 = h (0 + 5 + 7 * c) 0 ∧ xs_Q h' (175 + 5 + 7 * c + 1) (d c) ∧ xs_Q h' (175 + 5 + 7 * c + 3) (s c) ∧ xs_Q h' (175 + 5 + 7 * c + 5) (t c)) ∧ xs_off (fun x => ∃ c, i ≤ c ∧ c < nC ∧ 175 + 5 + 7 * c ≤ x ∧ x ≤ 175 + 5 + 7 * c + 6) h h' := by
  intro m
  induction m with
  | zero =>
    intro i n h hi hn h5 hq
    cases n with
    | zero => omega
    | succ n =>
      unfold mX1_becomeLike_b45
      rw [if_pos (by rw [h5]; exact nI_le (by omega) (by omega))]
      exact ⟨h, rfl, fun c h1 h2 => absurd h2 (by omega), xs_off.rf⟩
  | succ m ih =>
    intro i n h hi hn h5 hq
    cases n with
    | zero => omega
    | succ n =>
      have hi2 : i < nC := by omega
      obtain ⟨a1, a3, a5⟩ := hq i hi2
      unfold mX1_becomeLike_b45
      rw [if_neg (by rw [h5]; exact nI_ge (by omega) (by omega)), xs_channelAt (by omega), Option.bind_some]
      dsimp only
      rw [xs_channelAt (by omega), Option.bind_some]
      dsimp only
      obtain ⟨h1, e1, z1, b1, b3, b5, o1⟩ := xs_lk0 (k0 := 175 + 5 + 7 * i) (k1 := 0 + 5 + 7 * i) (by omega) a1 a3 a5
      rw [e1, Option.bind_some, nI_1]
      have low : ∀ x, x < 180 → h1 x = h x := fun x hx => o1 x (by rintro ⟨a, b⟩; omega)
      obtain ⟨h2, e2, c2, o2⟩ := ih (i + 1) n h1 (by omega) (by omega) (by rw [low 175 (by omega)]; exact h5) (fun c hc => by
        obtain ⟨x1, x3, x5⟩ := hq c hc
        exact ⟨x1.same (low _ (by omega)) (low _ (by omega)), x3.same (low _ (by omega)) (low _ (by omega)), x5.same (low _ (by omega)) (low _ (by omega))⟩)
      refine ⟨h2, e2, fun c hc1 hc2 => ?_, (o1.mono (fun c hc => ⟨i, Nat.le_refl _, hi2, hc⟩)).tr (o2.mono (fun c hc => ?_))⟩
      · by_cases e : c = i
        · rw [e]
          have k : ∀ x, 175 + 5 + 7 * i ≤ x → x ≤ 175 + 5 + 7 * i + 6 → h2 x = h1 x := fun x hx1 hx2 => o2 x (by rintro ⟨c', p1, p2, p3, p4⟩; omega)
          refine ⟨?_, b1.same (k _ (by omega) (by omega)) (k _ (by omega) (by omega)), b3.same (k _ (by omega) (by omega)) (k _ (by omega) (by omega)), b5.same (k _ (by omega) (by omega)) (k _ (by omega) (by omega))⟩
          rw [k _ (by omega) (by omega)]
          exact z1
        · obtain ⟨k1, k2⟩ := c2 c (by omega) hc2
          refine ⟨?_, k2⟩
          rw [k1, low _ (by omega)]
      · obtain ⟨c', a, b, d1, d2⟩ := hc
        exact ⟨c', by omega, b, d1, d2⟩
def xs_c4 (h : xw_M) : xw_M := xw_st (xw_st (xw_st (xw_st h 175 5 (h 0 5)) 175 6 (h 0 6)) 175 7 (h 0 7)) 175 8 (h 0 8)
theorem xs_c4_k (h : xw_M) : xs_c4 h 175 5 = h 0 5 ∧ xs_c4 h 175 6 = h 0 6 ∧ xs_c4 h 175 7 = h 0 7 ∧ xs_c4 h 175 8 = h 0 8 ∧ xs_off (fun c => c = 175) h (xs_c4 h) := by
  refine ⟨?_, ?_, ?_, ?_, (((xs_ofk).tr (xs_ofk)).tr (xs_ofk)).tr (xs_ofk)⟩ <;> (unfold xs_c4; simp [xs_stf])
theorem xs_like1 {h : xw_M} {A T : xs_A} (C : xs_CR 0 h A) (Ct : xs_CR 175 h T) (hs : A.sz) (fa : xs_fresh A) (ft : xs_fresh T) (hT : T.nC ≤ A.nC ∧ T.nF ≤ A.nF ∧ ∀ f, f < 8 → T.sc f ≤ A.sc f) : ∃ h', mX1_becomeLike 175 0 h = some (h', ()) ∧ xs_CR 175 h' A ∧ xs_off (xs_rg 175) h h' := by
  obtain ⟨s1, s2, s3⟩ := hs
  obtain ⟨t1, t2, t3⟩ := hT
  have e : ∀ (g : xw_M) (j : Nat) (v : Int32), xw_st g 175 j v 0 = g 0 := fun g j v => xw_st_ne g 175 j v (by decide)
  unfold mX1_becomeLike xo_let
  dsimp only
  simp only [e]
  show ∃ h', ((mX3_becomeLike (175 + 3) (0 + 3) (xs_c4 h)).bind fun r5 => mX1_becomeLike_b45 175 0 xo_n r5.1 0) = some (h', ()) ∧ _
  obtain ⟨p5, p6, p7, p8, o0⟩ := xs_c4_k h
  generalize xs_c4 h = g0 at p5 p6 p7 p8 o0 ⊢
  obtain ⟨g1, e1, r1, o1⟩ := xs_like (k0 := 175 + 3) (k1 := 0 + 3) ⟨by unfold xs_kQ; omega, by unfold xs_kQ; omega⟩ ((C.que 0 (Or.inl rfl)).off o0 (by show ¬ 3 = 175; omega) (by show ¬ 4 = 175; omega))
  rw [e1, Option.bind_some]
  dsimp only
  have o01 : ∀ x, x ≠ 175 → x ≠ 178 → x ≠ 179 → g1 x = h x := fun x x1 x2 x3 => (o1 x (by unfold xs_kQ; omega)).trans (o0 x x1)
  obtain ⟨g2, e2, r2, o2⟩ := xs_lk1C (nC := A.nC) (d := fun c => A.ls (1 + c)) (s := fun c => A.ls (5 + c)) (t := fun c => A.ls (9 + c)) s1 A.nC 0 xo_n g1 (by omega) (by show A.nC < 300; omega) (by rw [o1 175 (by unfold xs_kQ; omega), p5]; exact C.c5) (fun c hc => by
    have q1 := C.que (1 + c) (Or.inr (Or.inl ⟨by omega, by omega⟩))
    have q5 := C.que (5 + c) (Or.inr (Or.inr (Or.inl ⟨by omega, by omega⟩)))
    have q9 := C.que (9 + c) (Or.inr (Or.inr (Or.inr ⟨by omega, by omega⟩)))
    rw [← xs_q1 (by omega)] at q1
    rw [← xs_q5 (by omega)] at q5
    rw [← xs_q9 (by omega)] at q9
    exact ⟨q1.same (o01 _ (by omega) (by omega) (by omega)) (o01 _ (by omega) (by omega) (by omega)), q5.same (o01 _ (by omega) (by omega) (by omega)) (o01 _ (by omega) (by omega) (by omega)), q9.same (o01 _ (by omega) (by omega) (by omega)) (o01 _ (by omega) (by omega) (by omega))⟩)
  rw [show (0 : Int32) = nI 0 from rfl, e2]
  have o2l : ∀ x, x < 180 ∨ 207 < x → g2 x = g1 x := fun x hx => o2 x (by rintro ⟨c, c1, c2, c3, c4⟩; omega)
  have low : ∀ x, x < 175 → g2 x = h x := fun x hx => (o2l x (by omega)).trans (o01 x (by omega) (by omega) (by omega))
  obtain ⟨g3, e3, r3, o3⟩ := xs_lk1F (nF := A.nF) (sc := A.sc) s2 s3 A.nF 0 xo_n g2 (by omega) (by show A.nF < 300; omega) (by rw [o2l 175 (by omega), o1 175 (by unfold xs_kQ; omega), p6]; exact C.c6) (fun f hf => by rw [low _ (by omega)]; exact C.cnt f (by omega))
  have o3l : ∀ x, x < 215 → g3 x = g2 x := fun x hx => o3 x (by rintro ⟨f, c1, c2, c3 | ⟨j, c4, c5⟩⟩ <;> omega)
  have o3f : ∀ f, A.nF ≤ f → f < 8 → g3 (175 + 40 + 15 * f) = h (175 + 40 + 15 * f) := fun f hf hf8 => by
    rw [o3 _ (by
      rintro ⟨f', c1, c2, c3 | ⟨j, c4, c5⟩⟩
      · omega
      · have := s3 f' c2
        omega), o2l _ (by omega), o01 _ (by omega) (by omega) (by omega)]
  have o3s : ∀ f j, f < 8 → A.sc f ≤ j → j < 12 → g3 (175 + 40 + 15 * f + 2 + j) = h (175 + 40 + 15 * f + 2 + j) := fun f j hf8 hj hj12 => by
    rw [o3 _ (by
      rintro ⟨f', c1, c2, c3 | ⟨j', c4, c5⟩⟩
      · omega
      · have := s3 f' c2
        have : f' = f := by omega
        subst this
        omega), o2l _ (by omega), o01 _ (by omega) (by omega) (by omega)]
  have z175 : g3 175 = g0 175 := (o3l 175 (by omega)).trans ((o2l 175 (by omega)).trans (o1 175 (by unfold xs_kQ; omega)))
  refine ⟨g3, e3, xs_CR.mk ⟨s1, s2⟩ ?_ ?_ (fun f hf => ?_) (fun f hf => ?_) (fun f j hf hj => ?_) (fun t i hd => ?_) (fun n hn => ?_), ?_⟩
  · rw [z175, p5]; exact C.c5
  · rw [z175, p6]; exact C.c6
  · by_cases hn : f < A.nF
    · rw [(r3 f (by omega) hn).1, o2l _ (by omega), o01 _ (by omega) (by omega) (by omega)]
      exact Ct.num f hf
    · rw [o3f f (by omega) hf]
      exact Ct.num f hf
  · by_cases hn : f < A.nF
    · rw [(r3 f (by omega) hn).2.1 7 (by omega) (by omega), low _ (by omega)]
      exact C.cnt f hf
    · rw [o3f f (by omega) hf, Ct.cnt f hf, (fa.1 f (by omega) hf).2.2, (ft.1 f (by omega) hf).2.2]
  · have h12 := s3 f hf
    have k := (r3 f (by omega) hf).2.2 j
    rw [show 175 + 42 + 15 * f + j = 175 + 40 + 15 * f + 2 + j by omega, k 0 hj (by omega), k 1 hj (by omega), k 2 hj (by omega), low _ (by omega), show 0 + 40 + 15 * f + 2 + j = 0 + 42 + 15 * f + j by omega]
    exact C.stp f j hf hj
  · have c0 := C.sca t i hd
    have ct := Ct.sca t i hd
    rcases hd with ⟨a1, a2, a3⟩ | ⟨a1, a2⟩ | ⟨a1, a2⟩ | ⟨a1, a2⟩ | ⟨a1, a2, a3⟩
    · have ek : ∀ B, xs_sk B t i = B + 40 + 15 * i := fun B => if_pos a2
      have ej : xs_sj t = t := if_pos a2
      rw [ek, ej] at c0 ct ⊢
      by_cases hn : i < A.nF
      · rw [(r3 i (by omega) hn).2.1 t a1 (by omega), low _ (by omega)]
        exact c0
      · rw [o3f i (by omega) a3, ct]
        obtain ⟨x1, x2, x3⟩ := fa.1 i (by omega) a3
        obtain ⟨y1, y2, y3⟩ := ft.1 i (by omega) a3
        by_cases e1 : t = 1
        · rw [e1, x1, y1]
        · rw [x2 t (by omega) a2, y2 t (by omega) a2]
    · subst a1
      have ek : ∀ B, xs_sk B 8 i = B + 5 + 7 * i := fun B => rfl
      have ej : xs_sj 8 = 0 := rfl
      rw [ek, ej] at c0 ct ⊢
      rw [o3l _ (by omega)]
      by_cases hn : i < A.nC
      · rw [(r2 i (by omega) hn).1, o01 _ (by omega) (by omega) (by omega)]
        exact c0
      · rw [o2 _ (by rintro ⟨c, c1, c2, c3, c4⟩; omega), o01 _ (by omega) (by omega) (by omega), ct, (fa.2.2 i (by omega) a2).1, (ft.2.2 i (by omega) a2).1]
    · subst a1
      subst a2
      show g3 175 7 = _
      rw [z175, p7]
      exact c0
    · subst a1
      subst a2
      show g3 175 8 = _
      rw [z175, p8]
      exact c0
    · obtain ⟨f, rfl⟩ : ∃ f, t = 20 + f := ⟨t - 20, by omega⟩
      have ek : ∀ B, xs_sk B (20 + f) i = B + 40 + 15 * f + 2 + i := fun B => by
        unfold xs_sk
        rw [if_neg (by omega), if_neg (by omega), if_neg (by omega)]
        omega
      have ej : xs_sj (20 + f) = 3 := by
        unfold xs_sj
        rw [if_neg (by omega), if_neg (by omega), if_neg (by omega), if_neg (by omega)]
      rw [ek, ej] at c0 ct ⊢
      have hf8 : f < 8 := by omega
      by_cases hn : f < A.nF ∧ i < A.sc f
      · rw [(r3 f (by omega) hn.1).2.2 i 3 hn.2 (by omega), low _ (by omega)]
        exact c0
      · have hi : A.sc f ≤ i := by
          by_cases hf : f < A.nF
          · omega
          · have := (fa.1 f (by omega) hf8).2.2
            omega
        have := t3 f hf8
        rw [o3s f i hf8 hi a3, ct, fa.2.1 f i hf8 hi a3, ft.2.1 f i hf8 (by omega) a3]
  · have q0 := Ct.que n hn
    rcases hn with b1 | ⟨b1, b2⟩ | ⟨b1, b2⟩ | ⟨b1, b2⟩
    · subst b1
      have k : ∀ x, x = 178 ∨ x = 179 → g3 x = g1 x := fun x hx => (o3l x (by omega)).trans (o2l x (by omega))
      exact r1.same (k _ (Or.inl rfl)) (k _ (Or.inr rfl))
    · obtain ⟨c, rfl⟩ : ∃ c, n = 1 + c := ⟨n - 1, by omega⟩
      rw [← xs_q1 (by omega)] at q0 ⊢
      by_cases hc : c < A.nC
      · exact (r2 c (by omega) hc).2.1.same (o3l _ (by omega)) (o3l _ (by omega))
      · have k : ∀ x, 175 + 5 + 7 * c ≤ x → x ≤ 175 + 5 + 7 * c + 6 → g3 x = h x := fun x hx1 hx2 => (o3l x (by omega)).trans ((o2 x (by rintro ⟨c', c1, c2, c3, c4⟩; omega)).trans (o01 x (by omega) (by omega) (by omega)))
        rw [(fa.2.2 c (by omega) (by omega)).2.1]
        rw [(ft.2.2 c (by omega) (by omega)).2.1] at q0
        exact q0.same (k _ (by omega) (by omega)) (k _ (by omega) (by omega))
    · obtain ⟨c, rfl⟩ : ∃ c, n = 5 + c := ⟨n - 5, by omega⟩
      rw [← xs_q5 (by omega)] at q0 ⊢
      by_cases hc : c < A.nC
      · exact (r2 c (by omega) hc).2.2.1.same (o3l _ (by omega)) (o3l _ (by omega))
      · have k : ∀ x, 175 + 5 + 7 * c ≤ x → x ≤ 175 + 5 + 7 * c + 6 → g3 x = h x := fun x hx1 hx2 => (o3l x (by omega)).trans ((o2 x (by rintro ⟨c', c1, c2, c3, c4⟩; omega)).trans (o01 x (by omega) (by omega) (by omega)))
        rw [(fa.2.2 c (by omega) (by omega)).2.2.1]
        rw [(ft.2.2 c (by omega) (by omega)).2.2.1] at q0
        exact q0.same (k _ (by omega) (by omega)) (k _ (by omega) (by omega))
    · obtain ⟨c, rfl⟩ : ∃ c, n = 9 + c := ⟨n - 9, by omega⟩
      rw [← xs_q9 (by omega)] at q0 ⊢
      by_cases hc : c < A.nC
      · exact (r2 c (by omega) hc).2.2.2.same (o3l _ (by omega)) (o3l _ (by omega))
      · have k : ∀ x, 175 + 5 + 7 * c ≤ x → x ≤ 175 + 5 + 7 * c + 6 → g3 x = h x := fun x hx1 hx2 => (o3l x (by omega)).trans ((o2 x (by rintro ⟨c', c1, c2, c3, c4⟩; omega)).trans (o01 x (by omega) (by omega) (by omega)))
        rw [(fa.2.2 c (by omega) (by omega)).2.2.2]
        rw [(ft.2.2 c (by omega) (by omega)).2.2.2] at q0
        exact q0.same (k _ (by omega) (by omega)) (k _ (by omega) (by omega))
  · intro x hx
    unfold xs_rg at hx
    rw [o3 x (by
      rintro ⟨f', c1, c2, c3 | ⟨j', c4, c5⟩⟩
      · omega
      · have := s3 f' c2
        omega), o2 x (by rintro ⟨c, c1, c2, c3, c4⟩; omega), o01 x (by omega) (by omega) (by omega)]
end BL
