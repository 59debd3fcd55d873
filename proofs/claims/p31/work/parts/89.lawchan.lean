/-! the law: counts -/
section LC
variable {A A' P : xs_A} {r : Nat}
theorem xd_no_cq {s : Int32} : ∀ (m i : Nat), xs_no A s m i = xs_cq (fun g => decide (A.a 1 g = s)) m i := by
  intro m
  induction m with
  | zero => intro i; rfl
  | succ m ih =>
    intro i
    unfold xs_no xs_cq
    rw [ih (i + 1)]
    by_cases h : A.a 1 i = s
    · rw [if_pos h, if_pos (decide_eq_true h)]
    · rw [if_neg h, if_neg (by rw [decide_eq_false h]; decide)]
theorem xd_no_end {s : Int32} (m : Nat) : xs_no A s (m + 1) 0 = xs_no A s m 0 + if A.a 1 m = s then 1 else 0 := by
  rw [xd_no_cq, xd_no_cq, xd_cq_end, Nat.zero_add]
  by_cases h : A.a 1 m = s
  · rw [if_pos h, if_pos (decide_eq_true h)]
  · rw [if_neg h, if_neg (by rw [decide_eq_false h]; decide)]
theorem xd_cq_le {p : Nat → Bool} : ∀ (m i : Nat), xs_cq p m i ≤ m := by
  intro m
  induction m with
  | zero => intro i; exact Nat.le_refl _
  | succ m ih =>
    intro i
    have := ih (i + 1)
    unfold xs_cq
    split <;> omega
theorem xd_cq_add {p q : Nat → Bool} : ∀ (m i : Nat), (∀ g, i ≤ g → g < i + m → ¬ (p g = true ∧ q g = true)) → xs_cq (fun g => p g || q g) m i = xs_cq p m i + xs_cq q m i := by
  intro m
  induction m with
  | zero => intro i _; rfl
  | succ m ih =>
    intro i h
    unfold xs_cq
    rw [ih (i + 1) (fun g h1 h2 => h g (by omega) (by omega))]
    have hi := h i (Nat.le_refl _) (by omega)
    cases hp : p i <;> cases hq : q i
    · show 0 + _ = 0 + _ + (0 + _); omega
    · show 1 + _ = 0 + _ + (1 + _); omega
    · show 1 + _ = 1 + _ + (0 + _); omega
    · exact absurd ⟨hp, hq⟩ hi
/-- who waits at the first c channels -/
def xd_u (A : xs_A) : Nat → Nat → Bool
  | 0, _ => false
  | c + 1, g => xd_u A c g || (decide (nI g ∈ A.ls (5 + c)) || decide (nI g ∈ A.ls (9 + c)))
def xd_Wn (A : xs_A) : Nat → Nat
  | 0 => 0
  | c + 1 => xd_Wn A c + ((A.ls (5 + c)).length + (A.ls (9 + c)).length)
theorem xd_u_at (w : xs_W A 99) {g : Nat} (hg : g < A.nF) : ∀ c, c ≤ A.nC → xd_u A c g = true → ∃ d, d < c ∧ (A.at 99 (5 + d) g ∨ A.at 99 (9 + d) g) := by
  intro c
  induction c with
  | zero => intro _ h; cases h
  | succ c ih =>
    intro hc h
    unfold xd_u at h
    rw [Bool.or_eq_true, Bool.or_eq_true, decide_eq_true_iff, decide_eq_true_iff] at h
    rcases h with h | h | h
    · obtain ⟨d, hd, h⟩ := ih (by omega) h
      exact ⟨d, by omega, h⟩
    · exact ⟨c, by omega, Or.inl (((w.2.2.2.2.2 _ (xs_fL (by omega)).1).2 g hg).mp h)⟩
    · exact ⟨c, by omega, Or.inr (((w.2.2.2.2.2 _ (xs_fL (by omega)).2).2 g hg).mp h)⟩
theorem xd_Wn_cq (w : xs_W A 99) : ∀ c, c ≤ A.nC → xd_Wn A c = xs_cq (xd_u A c) A.nF 0 := by
  have h4 := w.1.1
  have hs := w.1
  intro c
  induction c with
  | zero =>
    intro _
    have : ∀ m i, xs_cq (xd_u A 0) m i = 0 := by
      intro m
      induction m with
      | zero => intro i; rfl
      | succ m ih => intro i; unfold xs_cq; rw [ih]; rfl
    rw [this]; rfl
  | succ c ih =>
    intro hc
    have f5 := (xs_fL (A := A) (c := c) (by omega)).1
    have f9 := (xs_fL (A := A) (c := c) (by omega)).2
    have e : xs_cq (xd_u A (c + 1)) A.nF 0 = xs_cq (xd_u A c) A.nF 0 + xs_cq (fun g => decide (nI g ∈ A.ls (5 + c)) || decide (nI g ∈ A.ls (9 + c))) A.nF 0 := xd_cq_add A.nF 0 (fun g _ hg ⟨z1, z2⟩ => by
      have hg : g < A.nF := by omega
      obtain ⟨d, hd, h1⟩ := xd_u_at w hg c (by omega) z1
      rw [Bool.or_eq_true, decide_eq_true_iff, decide_eq_true_iff] at z2
      have f5d := (xs_fL (A := A) (c := d) (by omega)).1
      have f9d := (xs_fL (A := A) (c := d) (by omega)).2
      rcases z2 with z2 | z2
      · have h2 := ((w.2.2.2.2.2 _ f5).2 g hg).mp z2
        rcases h1 with h1 | h1
        · have := xs_at_one hs f5d f5 h1 h2; omega
        · have := xs_at_one hs f9d f5 h1 h2; omega
      · have h2 := ((w.2.2.2.2.2 _ f9).2 g hg).mp z2
        rcases h1 with h1 | h1
        · have := xs_at_one hs f5d f9 h1 h2; omega
        · have := xs_at_one hs f9d f9 h1 h2; omega)
    have e2 : xs_cq (fun g => decide (nI g ∈ A.ls (5 + c)) || decide (nI g ∈ A.ls (9 + c))) A.nF 0 = _ := xd_cq_add A.nF 0 (fun g _ hg ⟨z1, z2⟩ => by
      have hg : g < A.nF := by omega
      rw [decide_eq_true_iff] at z1 z2
      have := xs_at_one hs f5 f9 (((w.2.2.2.2.2 _ f5).2 g hg).mp z1) (((w.2.2.2.2.2 _ f9).2 g hg).mp z2)
      omega)
    show xd_Wn A c + ((A.ls (5 + c)).length + (A.ls (9 + c)).length) = _
    rw [e, e2, ih (by omega), w.cq f5, w.cq f9]
theorem xd_Wn_le (w : xs_W A 99) : xd_Wn A A.nC + (xs_no A 0 A.nF 0 + (xs_no A 3 A.nF 0 + xs_no A 5 A.nF 0)) ≤ A.nF := by
  rw [xd_Wn_cq w A.nC (Nat.le_refl _), xd_no_cq, xd_no_cq, xd_no_cq]
  have a1 := xd_cq_add (p := fun g => decide (A.a 1 g = 3)) (q := fun g => decide (A.a 1 g = 5)) A.nF 0 (fun g _ _ ⟨z1, z2⟩ => by
    rw [decide_eq_true_iff] at z1 z2; rw [z1] at z2; exact absurd z2 (by decide))
  have a2 := xd_cq_add (p := fun g => decide (A.a 1 g = 0)) (q := fun g => decide (A.a 1 g = 3) || decide (A.a 1 g = 5)) A.nF 0 (fun g _ _ ⟨z1, z2⟩ => by
    rw [Bool.or_eq_true, decide_eq_true_iff, decide_eq_true_iff] at z2
    rw [decide_eq_true_iff] at z1
    rw [z1] at z2
    rcases z2 with z | z <;> exact absurd z (by decide))
  have a3 := xd_cq_add (p := xd_u A A.nC) (q := fun g => decide (A.a 1 g = 0) || (decide (A.a 1 g = 3) || decide (A.a 1 g = 5))) A.nF 0 (fun g _ hg ⟨z1, z2⟩ => by
    obtain ⟨d, hd, h1⟩ := xd_u_at w (by omega) A.nC (Nat.le_refl _) z1
    rw [Bool.or_eq_true, Bool.or_eq_true, decide_eq_true_iff, decide_eq_true_iff, decide_eq_true_iff] at z2
    have st : A.a 1 g = 1 ∨ A.a 1 g = 2 := by
      rcases h1 with h1 | h1 <;> rcases xs_at_st h1 with ⟨z, _⟩ | ⟨_, z⟩
      · omega
      · exact z
      · omega
      · exact z
    rcases st with st | st <;> rw [st] at z2 <;> rcases z2 with z | z | z <;> exact absurd z (by decide))
  have := xd_cq_le (p := fun g => xd_u A A.nC g || (decide (A.a 1 g = 0) || (decide (A.a 1 g = 3) || decide (A.a 1 g = 5)))) A.nF 0
  omega
/-- the line's length -/
theorem xd_line_no (w : xs_W A 99) : (A.ls 0).length = xs_no A 0 A.nF 0 := by
  have h8 := w.1.2.1
  rw [w.cq (n := 0) (Or.inl rfl), xd_no_cq]
  refine xs_cq_congr A.nF 0 (fun g _ hg => decide_eq_decide.mpr ?_)
  refine ((w.2.2.2.2.2 0 (Or.inl rfl)).2 g (by omega)).trans ?_
  unfold xs_A.at
  rw [if_pos rfl]
  exact ⟨fun z => z.1, fun z => ⟨z, by omega⟩⟩
/-- where one stands in line -/
theorem xd_ff {x : Int32} : ∀ (l : List Int32) (i : Nat), (∃ k, k < l.length ∧ xs_ff x l i = nI (i + k) ∧ l.getD k 0 = x) ∨ (x ∉ l ∧ xs_ff x l i = -1) := by
  intro l
  induction l with
  | nil => intro i; exact Or.inr ⟨List.not_mem_nil, rfl⟩
  | cons a l ih =>
    intro i
    unfold xs_ff
    by_cases h : a = x
    · rw [if_pos h]
      exact Or.inl ⟨0, by show 0 < l.length + 1; omega, rfl, h⟩
    · rw [if_neg h]
      rcases ih (i + 1) with ⟨k, k1, k2, k3⟩ | ⟨k1, k2⟩
      · exact Or.inl ⟨k + 1, by show k + 1 < l.length + 1; omega, by rw [k2, show i + 1 + k = i + (k + 1) by omega], k3⟩
      · exact Or.inr ⟨fun z => by
          rcases List.mem_cons.mp z with z | z
          · exact h z.symm
          · exact k1 z, k2⟩
theorem xd_nd {l : List Int32} (h : l.Nodup) {i j : Nat} (hi : i < l.length) (hj : j < l.length) (e : l.getD i 0 = l.getD j 0) : i = j := by
  rw [List.getD_eq_getElem?_getD, List.getD_eq_getElem?_getD, List.getElem?_eq_getElem hi, List.getElem?_eq_getElem hj] at e
  have e : l[i] = l[j] := e
  rcases Nat.lt_trichotomy i j with z | z | z
  · exact absurd e (List.pairwise_iff_getElem.mp h i j hi hj z)
  · exact z
  · exact absurd e.symm (List.pairwise_iff_getElem.mp h j i hj hi z)
end LC
/-! the law: what is told -/
section LF
variable {y y' : yz_Y} {A A' P : xs_A} {Wt : List Int32} {r : Nat} {h h' : xw_M}
variable {L : Nat} {xs : Nat → Int32} {K22 : xw_M → yz_Y → Int32 → Option (xw_M × yz_Y × Unit)} {a3 a4 : Int32}
theorem ys_G.heap (G : ys_G A h y) (j : xs_JC A h') : ys_G A h' y := ⟨j, G.2⟩
theorem lg_cmp_self {v : Int64} : lg_cmp v v = 0 := by
  unfold lg_cmp
  rw [if_neg (show ¬ v > v from fun z => Int64.lt_irrefl z), if_pos rfl]
theorem xd_nIm {n : Nat} (hn : n < 2 ^ 31) : ¬ (-1 : Int32) = nI n := fun z => by
  have := congrArg Int32.toInt z
  rw [nI_toInt hn, show (-1 : Int32).toInt = -1 from rfl] at this
  omega
theorem xd_udv0 {p : xs_A → Prop} : (p A → xs_udv p A = 0) ∧ (¬ p A → ¬ xs_udv p A = 0) ∧ ¬ (200 : Int32) < xs_udv p A := by
  obtain ⟨r1, r2⟩ := xd_Ud_rg _ _ _ (xd_udv p A)
  refine ⟨r1, fun h => ?_, ?_⟩
  · rcases r2 h with z | ⟨k, k1, k2, z⟩
    · rw [z]; decide
    · rw [z, xd_nI0 (by omega)]; omega
  · by_cases h : p A
    · rw [r1 h]; decide
    · rcases r2 h with z | ⟨k, k1, k2, z⟩
      · rw [z]; decide
      · rw [z, show (200 : Int32) = nI 200 from rfl]
        exact nI_nlt (by omega) (by omega)
theorem lw_722 {T : Nat} (hT : T ≤ 14) (hK : ∀ A h y, ys_G A h y → ys_Q (K22 h y (a3 + 1))) (G : ys_G A h y) {a15 a16 a17 : Int32} (h2 : ¬ (200 : Int32) < a16) (h0 : xd_on A 0 T a15 a16 a17 (if a16 = 0 then 1 else 0)) : ys_Q (mL_law_b722 L xs K22 a3 (xs_dg A) (nI A.nF) (nI T) a15 a16 h y a17) := by
  obtain ⟨h1, c1, c2, _⟩ := xs_cUntilStuck G.1 G.2.1.1 G.2.1.2.1
  have G1 := G.heap c2
  obtain ⟨h3, d1, d2, _⟩ := xs_cDg G1.1 G1.2.1.1 G1.2.1.2.1
  have G3 := G.heap d2
  obtain ⟨u1, u2, u3⟩ := xd_udv0 (A := A) (p := xs_stk)
  have fin : ∀ a19, (if a16 = 0 then (1 : Int32) else 0) = a19 → ys_Q (mL_law_b785 L xs K22 a3 (nI A.nF) (nI T) a15 a16 a17 (xs_udv xs_stk A) h3 y a19) := fun a19 ea => by
    rw [ea] at h0
    unfold mL_law_b785 mL_law_b797
    by_cases hs : xs_stk A
    · rw [if_pos (u1 hs)]
      exact lw_802 hT hK T 0 15 A h3 y a19 1 G3 (by omega) (by omega) h0 (Or.inl ⟨rfl, hs, 0, Nat.le_refl _, u1 hs⟩)
    · rw [if_neg (u2 hs)]
      exact lw_802 hT hK T 0 15 A h3 y a19 0 G3 (by omega) (by omega) h0 (Or.inr ⟨rfl, hs, xd_udv xs_stk A⟩)
  have s766 : ∀ s, s = xs_stv A → ys_Q (mL_law_b766 L xs K22 a3 (nI A.nF) (nI T) a15 a16 a17 (xs_udv xs_stk A) h3 y s) := fun s es => by
    unfold mL_law_b766
    rw [xs_cIsStuck G3.1, Option.bind_some]
    dsimp only
    rw [if_pos es]
    by_cases h : a16 = 0
    · rw [if_pos h]; exact fin 1 (if_pos h)
    · rw [if_neg h]; exact fin 0 (if_neg h)
  unfold mL_law_b722
  rw [c1, Option.bind_some]
  dsimp only
  rw [d1, Option.bind_some]
  dsimp only
  rw [if_pos rfl, if_pos lg_cmp_self, if_neg h2, if_neg u3]
  by_cases hs : xs_stk A
  · rw [if_pos (u1 hs)]; exact s766 1 (xd_stv1 hs).symm
  · rw [if_neg (u2 hs)]; exact s766 0 (xd_stv0 hs).symm
theorem lw_686 {T : Nat} (hT1 : 1 ≤ T) (hT : T ≤ 14) (hK : ∀ A h y, ys_G A h y → ys_Q (K22 h y (a3 + 1))) (G : ys_G A h y) {a15 : Int32} (h0 : a15 = -1 ∨ ∃ f, f < A.nF ∧ a15 = nI f) : ys_Q (mL_law_b686 L xs K22 a3 (xs_dg A) (nI A.nF) (nI T) h y a15) := by
  have h8 := G.2.1.1.1.2.1
  unfold mL_law_b686 mL_law_b703
  rcases h0 with e | ⟨f, hf, e⟩
  · rw [e, if_neg (by decide), if_neg (by decide)]
    exact lw_722 hT hK G (by decide) (Or.inl rfl)
  · have hp : (0 : Int32) ≤ nI f := Int32.not_lt.mp (nI_pos (by omega))
    obtain ⟨h1, c1, c2, _⟩ := xs_c_turnsUntilDone G.1 G.2.1.1 G.2.1.2.1 hf
    have G1 := G.heap c2
    obtain ⟨h3, d1, d2, _⟩ := xs_c_sumIn G1.1 G1.2.1.1 G1.2.1.2.1 hf hT1 (t := T) (by omega)
    have G3 := G.heap d2
    obtain ⟨u1, u2, u3⟩ := xd_udv0 (A := A) (p := fun P => P.a 1 f = 5)
    rw [e, if_pos hp, c1, Option.bind_some]
    dsimp only
    rw [if_pos rfl, if_pos hp, d1, Option.bind_some]
    dsimp only
    rw [if_pos rfl]
    refine lw_722 hT hK G3 u3 (Or.inr ⟨f, hf, rfl, ?_, rfl⟩)
    by_cases h5 : A.a 1 f = 5
    · exact Or.inl (if_pos (u1 h5))
    · exact Or.inr ⟨if_neg (u2 h5), h5, xd_udv _ A⟩
/-! the law: the channels -/
theorem xd_none {b : Nat → Bool} (h : ∀ g, b g = true → A.a 1 g = 0) (h0 : xs_no A 0 A.nF 0 = 0) : xs_cq b A.nF 0 = 0 := by
  rw [xd_no_cq] at h0
  have := xd_cq_mono (p := b) (q := fun g => decide (A.a 1 g = 0)) A.nF 0 (fun g _ _ hb => decide_eq_true (h g hb))
  omega
theorem lw_574 (G : ys_G A h y) {c : Nat} (hc : c < A.nC) {K491 : xw_M → yz_Y → Int32 → Int32 → Option (xw_M × yz_Y × Unit)} {w5 : Int64} {a7 a9 a10 a13 : Int32} : mL_law_b574 L xs K491 K22 a3 a4 w5 a7 (nI (xs_no A 0 A.nF 0)) a9 a10 a13 (nI c) (xs_pwv A c) h y = K491 h y a13 (nI (c + 1)) := by
  obtain ⟨j, I, Wt, R, V⟩ := id G
  have w := I.1
  have h4 := w.1.1
  have h8 := w.1.2.1
  obtain ⟨g1, g2, g3, g4, g5⟩ := R.chan w.1 hc
  obtain ⟨p, p1, p2, p3, p4, p5⟩ := xd_pwv w hc
  have hno : xs_no A 0 A.nF 0 ≤ A.nF := xs_no_le A.nF 0
  have hl5 : (A.ls (5 + c)).length ≤ 8 := Nat.le_trans (xs_pig A.nF _ (w.2.2.2.2.2 _ (xs_fL hc).1).1.1 (w.2.2.2.2.2 _ (xs_fL hc).1).1.2) h8
  have s604 : mL_law_b604 L xs K491 K22 a3 a4 w5 a7 (nI (xs_no A 0 A.nF 0)) a9 a10 a13 (nI c) (xs_pwv A c) h y = K491 h y a13 (nI (c + 1)) := by
    unfold mL_law_b604 mL_law_b621
    rcases p5 with e | ⟨q, q1, q2, e⟩
    · rw [e, if_pos (by decide), if_pos (by decide), nI_1]
    · rw [e, if_neg (nI_pos (by omega)), if_pos g3, nI_clamp (by omega), g5, p3, if_neg (nI_nlt q1 (by omega)), if_pos (by rw [xs_e8]; exact nI_le q2 (by omega)), nI_1]
  unfold mL_law_b574
  rw [xs_c_sendersAt j hc, Option.bind_some]
  dsimp only
  rw [if_pos rfl]
  by_cases hs : A.ls (5 + c) = []
  · rw [if_pos (by rw [hs]; decide)]
    exact s604
  · have hpos : 0 < (A.ls (5 + c)).length := List.length_pos_iff.mpr hs
    rw [if_neg (show ¬ nI (A.ls (5 + c)).length ≤ 0 from nI_ge (a := 0) hpos (by omega))]
    by_cases h0 : nI (xs_no A 0 A.nF 0) = 0
    · rw [if_pos h0, xs_c_held j hc, Option.bind_some]
      dsimp only
      have z0 := (xd_nI0 (by omega)).mp h0
      have hS := (I.2.2.1.2 c hc).2 hs
      rw [xd_none (b := xd_s A c) (fun g hg => (xd_s_iff.mp hg).1) z0, p3, nI_clamp (by omega)] at hS
      rw [if_pos rfl, if_pos g3, nI_clamp (by omega), g5, p3, if_neg (nI_nlt (by omega) (by omega))]
      exact s604
    · rw [if_neg h0]
      exact s604
theorem lw_491 (hK : ∀ A h y, ys_G A h y → ys_Q (K22 h y (a3 + 1))) : ∀ (m c fu : Nat) (h : xw_M), ys_G A h y → c + m = A.nC → m < fu → ys_Q (mL_law_b491 L xs K22 a3 a4 (xs_dg A) (nI A.nF) (nI (xs_no A 0 A.nF 0)) (nI (xs_no A 3 A.nF 0)) (nI (xs_no A 5 A.nF 0)) fu h y (nI (xd_Wn A c)) (nI c)) := by
  intro m
  induction m with
  | zero =>
    intro c fu h G hc hf
    cases fu with
    | zero => omega
    | succ fu =>
      obtain ⟨j, I, Wt, R, V⟩ := id G
      have w := I.1
      have h4 := w.1.1
      have h8 := w.1.2.1
      have ec : c = A.nC := by omega
      have hW := xd_Wn_le w
      have sub : ∀ a b : Nat, b ≤ a → a < 2 ^ 31 → nI a - nI b = nI (a - b) := fun a b hb ha => by
        apply Int32.toInt_inj.mp
        rw [Int32.toInt_sub, nI_toInt ha, nI_toInt (by omega), nI_toInt (by omega), Int.bmod_eq_of_le (by omega) (by omega)]
        omega
      rw [mL_law_b491, xs_cChannels j, Option.bind_some]
      dsimp only
      rw [ec, if_pos (Int32.le_refl _), sub _ _ (by omega) (by omega), sub _ _ (by omega) (by omega), sub _ _ (by omega) (by omega), if_pos (nI_le (by omega) (by omega))]
      obtain ⟨k, hk, ek⟩ := ys_below (y := y) (b := 14) (n := 14) rfl (by omega) (by omega) (a4 >>> ((5 : Int32) &&& 31))
      have e1 : (1 : Int32) + nI k = nI (k + 1) := by rw [Int32.add_comm, nI_1]
      rw [ek, Option.bind_some]
      dsimp only
      by_cases h0 : nI A.nF = 0
      · rw [if_pos h0, e1]
        exact lw_686 (by omega) (by omega) hK G (Or.inl rfl)
      · rw [if_neg h0]
        have hF : 0 < A.nF := Nat.pos_of_ne_zero (fun z => h0 (by rw [z]; rfl))
        obtain ⟨f, hf, ef⟩ := ys_below (y := y) (b := nI A.nF) (n := A.nF) rfl hF (by omega) (a4 >>> ((6 : Int32) &&& 31))
        rw [ef, Option.bind_some]
        dsimp only
        rw [e1]
        exact lw_686 (by omega) (by omega) hK G (Or.inr ⟨f, hf, rfl⟩)
  | succ m ih =>
    intro c fu h G hc hf
    cases fu with
    | zero => omega
    | succ fu =>
      obtain ⟨j, I, Wt, R, V⟩ := id G
      have w := I.1
      have h4 := w.1.1
      have h8 := w.1.2.1
      have hc1 : c < A.nC := by omega
      obtain ⟨g1, g2, g3, g4, g5⟩ := R.chan w.1 hc1
      obtain ⟨p, p1, p2, p3, p4, p5⟩ := xd_pwv w hc1
      obtain ⟨h1, c1, c2, _⟩ := xs_c_placesWanted j w I.2.1 hc1
      have G1 := G.heap c2
      have hno : xs_no A 0 A.nF 0 ≤ A.nF := xs_no_le A.nF 0
      have hl9 : (A.ls (9 + c)).length ≤ 8 := Nat.le_trans (xs_pig A.nF _ (w.2.2.2.2.2 _ (xs_fL hc1).2).1.1 (w.2.2.2.2.2 _ (xs_fL hc1).2).1.2) h8
      have next := ih (c + 1) fu h1 G1 (by omega) (by omega)
      have s574 : ys_Q (mL_law_b574 L xs (mL_law_b491 L xs K22 a3 a4 (xs_dg A) (nI A.nF) (nI (xs_no A 0 A.nF 0)) (nI (xs_no A 3 A.nF 0)) (nI (xs_no A 5 A.nF 0)) fu) K22 a3 a4 (xs_dg A) (nI A.nF) (nI (xs_no A 0 A.nF 0)) (nI (xs_no A 3 A.nF 0)) (nI (xs_no A 5 A.nF 0)) (nI (xd_Wn A c) + (nI (A.ls (5 + c)).length + nI (A.ls (9 + c)).length)) (nI c) (xs_pwv A c) h1 y) := by
        rw [lw_574 G1 hc1, nI_add, nI_add]
        exact next
      rw [mL_law_b491, xs_cChannels j, Option.bind_some]
      dsimp only
      rw [if_neg (nI_ge hc1 (by omega)), xs_c_sendersAt j hc1, Option.bind_some]
      dsimp only
      rw [if_pos rfl, xs_c_takersAt j hc1, Option.bind_some]
      dsimp only
      rw [if_pos rfl, c1, Option.bind_some]
      dsimp only
      rw [if_pos rfl, xs_c_held G1.1 hc1, Option.bind_some]
      dsimp only
      rw [if_pos rfl, if_neg (nI_pos (by omega)), xs_c_held G1.1 hc1, Option.bind_some]
      dsimp only
      rw [if_pos rfl, if_pos g3, nI_clamp (by omega), g5, p3, if_neg (nI_nlt p4 (by omega)), xs_c_takersAt G1.1 hc1, Option.bind_some]
      dsimp only
      rw [if_pos rfl]
      by_cases hs : A.ls (9 + c) = []
      · rw [if_pos (show nI (A.ls (9 + c)).length ≤ 0 by rw [hs]; decide)]
        exact s574
      · have hpos : 0 < (A.ls (9 + c)).length := List.length_pos_iff.mpr hs
        rw [if_neg (show ¬ nI (A.ls (9 + c)).length ≤ 0 from nI_ge (a := 0) hpos (by omega))]
        by_cases h0 : nI (xs_no A 0 A.nF 0) = 0
        · have z0 := (xd_nI0 (by omega)).mp h0
          have hS := (I.2.2.1.2 c hc1).1 hs
          rw [xd_none (b := xd_t A c) (fun g hg => (xd_t_iff.mp hg).1) z0] at hS
          rw [if_pos h0, xs_c_held G1.1 hc1, Option.bind_some]
          dsimp only
          rw [if_pos rfl, if_neg (show ¬ (0 : Int32) < nI (A.ls (1 + c)).length from nI_nlt (a := 0) hS (by omega))]
          exact s574
        · rw [if_neg h0]
          exact s574
end LF
