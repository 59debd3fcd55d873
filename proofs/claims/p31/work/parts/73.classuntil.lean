/-! the class asks what would be -/
def xs_stk (A : xs_A) : Prop := xs_sp A ∧ ¬ xs_ad A
def xs_oC (h h' : xw_M) (A T : xs_A) (B : Nat) : Prop := xs_CR B h' T ∧ xs_W T 99 ∧ xs_fr A T ∧ xs_off (xs_rg B) h h'
section UD
variable {h : xw_M} {A : xs_A}
theorem xs_stk_p : ∀ A A' : xs_A, A'.nF = A.nF → (∀ f, A'.a 1 f = A.a 1 f) → xs_stk A' → xs_stk A := by
  intro A A' e1 e2 h
  refine ⟨fun f hf => ?_, fun z => h.2 (fun f hf => ?_)⟩
  · have := h.1 f (by rw [e1]; exact hf)
    rw [e2] at this
    exact this
  · rw [e2]
    exact z f (by rw [← e1]; exact hf)
theorem xs_cUd {f : Nat} : ∀ (m i n : Nat) (h : xw_M) (A : xs_A), xs_CR 175 h A → xs_W A 99 → f < A.nF → i + m = 200 → m < n → ∃ h' v T, mX5_turnsUntilDone_b27 350 (175 + 40 + 15 * f) n h (nI i) = some (h', v, 0) ∧ xs_Ud (fun P => P.a 1 f = 5) m i A v ∧ xs_oC h h' A T 175 := by
  intro m
  induction m with
  | zero =>
    intro i n h A C w hf hi hn
    cases n with
    | zero => omega
    | succ n =>
      have g1 := C.getF (t := 1) (by omega) hf
      unfold mX5_turnsUntilDone_b27 mX5_turnsUntilDone_b65
      rw [if_pos (by rw [show i = 200 by omega]; decide)]
      by_cases e : A.a 1 f = 5
      · rw [if_pos (g1.trans e)]
        exact ⟨h, nI i, A, rfl, Or.inl ⟨e, rfl⟩, C, w, xs_fr.rf, xs_off.rf⟩
      · rw [if_neg (fun z => e (g1.symm.trans z))]
        exact ⟨h, -1, A, rfl, Or.inr ⟨e, rfl⟩, C, w, xs_fr.rf, xs_off.rf⟩
  | succ m ih =>
    intro i n h A C w hf hi hn
    cases n with
    | zero => omega
    | succ n =>
      have g1 := C.getF (t := 1) (by omega) hf
      unfold mX5_turnsUntilDone_b27 mX5_turnsUntilDone_b65
      rw [if_neg (by rw [show (200 : Int32) = nI 200 from by decide]; exact nI_ge (by omega) (by omega))]
      by_cases e : A.a 1 f = 5
      · rw [if_pos (g1.trans e), if_pos (g1.trans e)]
        exact ⟨h, nI i, A, rfl, Or.inl ⟨e, rfl⟩, C, w, xs_fr.rf, xs_off.rf⟩
      · rw [if_neg (fun z => e (g1.symm.trans z))]
        obtain ⟨x, ex, hx⟩ := xs_cStop C
        rw [ex, Option.bind_some]
        dsimp only
        rcases hx with ⟨rfl, hx⟩ | ⟨rfl, hx⟩
        · rw [if_neg (by decide), if_neg (fun z => e (g1.symm.trans z))]
          exact ⟨h, -1, A, rfl, xs_Ud_stop (fun A A' _ e2 z => (e2 f).symm.trans z) (m + 1) i A w hx e, C, w, xs_fr.rf, xs_off.rf⟩
        · rw [if_pos rfl]
          obtain ⟨h1, e1, C1, o1⟩ := xs_cTurn C w
          rw [e1, Option.bind_some, nI_1]
          obtain ⟨h2, v, T, e2, u2, C2, w2, f2, o2⟩ := ih (i + 1) n h1 A.turn C1 w.turn.1 (by rw [w.turn.2.2.1]; exact hf) (by omega) (by omega)
          exact ⟨h2, v, T, e2, Or.inr ⟨e, u2⟩, C2, w2, (xs_fr.turn w).tr f2, o1.tr o2⟩
theorem xs_cUs43 (C : xs_CR 175 h A) (a1 : Int32) : ∃ v, mX5_turnsUntilStuck_b43 350 a1 h = some (h, v) ∧ ((xs_stk A ∧ v = a1) ∨ (¬ xs_stk A ∧ v = -1)) := by
  unfold mX5_turnsUntilStuck_b43
  obtain ⟨x, ex, hx⟩ := xs_cStop C
  rw [ex, Option.bind_some]
  dsimp only
  rcases hx with ⟨rfl, hx⟩ | ⟨rfl, hx⟩
  · rw [if_neg (by decide)]
    obtain ⟨y, ey, hy⟩ := xs_cAll C
    rw [ey, Option.bind_some]
    dsimp only
    rcases hy with ⟨rfl, hy⟩ | ⟨rfl, hy⟩
    · rw [if_neg (by decide)]
      exact ⟨-1, rfl, Or.inr ⟨fun z => z.2 hy, rfl⟩⟩
    · rw [if_pos rfl]
      exact ⟨a1, rfl, Or.inl ⟨⟨hx, hy⟩, rfl⟩⟩
  · rw [if_pos rfl]
    exact ⟨-1, rfl, Or.inr ⟨fun z => hx z.1, rfl⟩⟩
theorem xs_cUs : ∀ (m i n : Nat) (h : xw_M) (A : xs_A), xs_CR 175 h A → xs_W A 99 → i + m = 200 → m < n → ∃ h' v T, mX5_turnsUntilStuck_b13 350 n h (nI i) = some (h', v) ∧ xs_Ud xs_stk m i A v ∧ xs_oC h h' A T 175 := by
  intro m
  induction m with
  | zero =>
    intro i n h A C w hi hn
    cases n with
    | zero => omega
    | succ n =>
      unfold mX5_turnsUntilStuck_b13
      rw [if_pos (by rw [show i = 200 by omega]; decide)]
      obtain ⟨v, ev, hv⟩ := xs_cUs43 C (nI i)
      exact ⟨h, v, A, ev, hv, C, w, xs_fr.rf, xs_off.rf⟩
  | succ m ih =>
    intro i n h A C w hi hn
    cases n with
    | zero => omega
    | succ n =>
      unfold mX5_turnsUntilStuck_b13
      rw [if_neg (by rw [show (200 : Int32) = nI 200 from by decide]; exact nI_ge (by omega) (by omega))]
      obtain ⟨x, ex, hx⟩ := xs_cStop C
      rw [ex, Option.bind_some]
      dsimp only
      rcases hx with ⟨rfl, hx⟩ | ⟨rfl, hx⟩
      · rw [if_neg (by decide)]
        obtain ⟨v, ev, hv⟩ := xs_cUs43 C (nI i)
        refine ⟨h, v, A, ev, ?_, C, w, xs_fr.rf, xs_off.rf⟩
        rcases hv with ⟨p, rfl⟩ | ⟨p, rfl⟩
        · exact Or.inl ⟨p, rfl⟩
        · exact xs_Ud_stop xs_stk_p (m + 1) i A w hx p
      · rw [if_pos rfl]
        obtain ⟨h1, e1, C1, o1⟩ := xs_cTurn C w
        rw [e1, Option.bind_some, nI_1]
        obtain ⟨h2, v, T, e2, u2, C2, w2, f2, o2⟩ := ih (i + 1) n h1 A.turn C1 w.turn.1 (by omega) (by omega)
        exact ⟨h2, v, T, e2, Or.inr ⟨fun z => hx z.1, u2⟩, C2, w2, (xs_fr.turn w).tr f2, o1.tr o2⟩
theorem xs_cSum {f : Nat} : ∀ (m i n : Nat) (h : xw_M) (A : xs_A), xs_CR 175 h A → xs_W A 99 → f < A.nF → i + m ≤ 60 → m < n → ∃ h', mX5_sumIn_b23 350 (nI f) (nI (i + m)) n h (nI i) = some (h', (A.turns m).a 3 f, 0) ∧ xs_oC h h' A (A.turns m) 175 := by
  intro m
  induction m with
  | zero =>
    intro i n h A C w hf hi hn
    cases n with
    | zero => omega
    | succ n =>
      have h8 := C.bd.2
      unfold mX5_sumIn_b23
      rw [if_pos (nI_le (by omega) (by omega)), xs_fiberAt (by omega), Option.bind_some]
      dsimp only
      rw [C.getF (t := 3) (by omega) hf]
      exact ⟨h, rfl, C, w, xs_fr.rf, xs_off.rf⟩
  | succ m ih =>
    intro i n h A C w hf hi hn
    cases n with
    | zero => omega
    | succ n =>
      unfold mX5_sumIn_b23
      rw [if_neg (nI_ge (by omega) (by omega))]
      obtain ⟨h1, e1, C1, o1⟩ := xs_cTurn C w
      rw [e1, Option.bind_some, nI_1, show i + (m + 1) = i + 1 + m by omega]
      obtain ⟨h2, e2, C2, w2, f2, o2⟩ := ih (i + 1) n h1 A.turn C1 w.turn.1 (by rw [w.turn.2.2.1]; exact hf) (by omega) (by omega)
      exact ⟨h2, e2, C2, w2, (xs_fr.turn w).tr f2, o1.tr o2⟩
theorem xs_cRun {a2 : Int32} : ∀ (m i n : Nat) (h : xw_M) (A : xs_A), xs_CR 0 h A → xs_W A 99 → i + m ≤ 60 → m < n → ∃ h', mX5_run_b15 350 (nI (i + m)) a2 n h (nI i) = some (h', (A.turns m).a 10 0 - a2, 0) ∧ xs_oC h h' A (A.turns m) 0 := by
  intro m
  induction m with
  | zero =>
    intro i n h A C w hi hn
    cases n with
    | zero => omega
    | succ n =>
      have g8 : h 0 8 = A.a 10 0 := C.sca 10 0 (Or.inr (Or.inr (Or.inr (Or.inl ⟨rfl, rfl⟩))))
      unfold mX5_run_b15
      rw [if_pos (nI_le (by omega) (by omega)), g8]
      exact ⟨h, rfl, C, w, xs_fr.rf, xs_off.rf⟩
  | succ m ih =>
    intro i n h A C w hi hn
    cases n with
    | zero => omega
    | succ n =>
      unfold mX5_run_b15
      rw [if_neg (nI_ge (by omega) (by omega))]
      obtain ⟨h1, e1, C1, o1⟩ := xs_cTurn C w
      rw [e1, Option.bind_some, nI_1, show i + (m + 1) = i + 1 + m by omega]
      obtain ⟨h2, e2, C2, w2, f2, o2⟩ := ih (i + 1) n h1 A.turn C1 w.turn.1 (by omega) (by omega)
      exact ⟨h2, e2, C2, w2, (xs_fr.turn w).tr f2, o1.tr o2⟩
theorem xs_c77 {K : xw_M → Int32 → Option (xw_M × Int32 × Nat)} {a1 a2 : Int32} (C : xs_CR 175 h A) : (xs_ad A ∧ mX5_placesWanted_b77 K 350 a1 a2 h = some (h, a2, 0)) ∨ (¬ xs_ad A ∧ mX5_placesWanted_b77 K 350 a1 a2 h = K h (a2 + 1)) := by
  unfold mX5_placesWanted_b77
  obtain ⟨y, ey, hy⟩ := xs_cAll C
  rw [ey, Option.bind_some]
  dsimp only
  rcases hy with ⟨rfl, hy⟩ | ⟨rfl, hy⟩
  · rw [if_neg (by decide)]
    exact Or.inl ⟨hy, rfl⟩
  · rw [if_pos rfl]
    exact Or.inr ⟨hy, rfl⟩
theorem xs_cWd {K : xw_M → Int32 → Option (xw_M × Int32 × Nat)} {a1 a2 : Int32} : ∀ (m i n : Nat) (h : xw_M) (A : xs_A), xs_CR 175 h A → xs_W A 99 → i + m = 100 → m < n → ∃ h' T, ((xs_Wd m A ∧ mX5_placesWanted_b48 K 350 a1 a2 n h (nI i) = some (h', a2, 0)) ∨ (¬ xs_Wd m A ∧ mX5_placesWanted_b48 K 350 a1 a2 n h (nI i) = K h' (a2 + 1))) ∧ xs_oC h h' A T 175 := by
  intro m
  induction m with
  | zero =>
    intro i n h A C w hi hn
    cases n with
    | zero => omega
    | succ n =>
      unfold mX5_placesWanted_b48
      rw [if_pos (by rw [show i = 100 by omega]; decide)]
      exact ⟨h, A, xs_c77 C, C, w, xs_fr.rf, xs_off.rf⟩
  | succ m ih =>
    intro i n h A C w hi hn
    cases n with
    | zero => omega
    | succ n =>
      unfold mX5_placesWanted_b48
      rw [if_neg (by rw [show (100 : Int32) = nI 100 from by decide]; exact nI_ge (by omega) (by omega))]
      obtain ⟨x, ex, hx⟩ := xs_cStop C
      rw [ex, Option.bind_some]
      dsimp only
      rcases hx with ⟨rfl, hx⟩ | ⟨rfl, hx⟩
      · rw [if_neg (by decide)]
        refine ⟨h, A, ?_, C, w, xs_fr.rf, xs_off.rf⟩
        rcases xs_c77 (K := K) (a1 := a1) (a2 := a2) C with ⟨p, e⟩ | ⟨p, e⟩
        · exact Or.inl ⟨Or.inl p, e⟩
        · exact Or.inr ⟨xs_Wd_stop (m + 1) A w hx p, e⟩
      · rw [if_pos rfl]
        obtain ⟨h1, e1, C1, o1⟩ := xs_cTurn C w
        rw [e1, Option.bind_some, nI_1]
        obtain ⟨h2, T, e2, C2, w2, f2, o2⟩ := ih (i + 1) n h1 A.turn C1 w.turn.1 (by omega) (by omega)
        have hna : ¬ xs_ad A := fun z => hx z.sp
        refine ⟨h2, T, ?_, C2, w2, (xs_fr.turn w).tr f2, o1.tr o2⟩
        rcases e2 with ⟨p, e⟩ | ⟨p, e⟩
        · exact Or.inl ⟨Or.inr p, e⟩
        · exact Or.inr ⟨fun z => z.elim hna p, e⟩
end UD
/-! the trial clock, between questions -/
def xs_Tr (h : xw_M) (A : xs_A) : Prop := ∃ T, xs_CR 175 h T ∧ T.sz ∧ xs_fresh T ∧ T.nC ≤ A.nC ∧ T.nF ≤ A.nF ∧ ∀ f, f < 8 → T.sc f ≤ A.sc f
section UT
variable {h : xw_M} {A : xs_A}
theorem xs_Tr.of {T : xs_A} (C : xs_CR 175 h T) (f : xs_fr A T) (fa : xs_fresh A) (hs : A.sz) : xs_Tr h A := by
  have ft := fa.fr f hs
  obtain ⟨⟨s1, s2, s3, s4, s5, s6⟩, f1, f2⟩ := f
  refine ⟨T, C, ?_, ft, by rw [s1]; exact Nat.le_refl _, by rw [s2]; exact Nat.le_refl _, fun f hf => by rw [s3]; exact Nat.le_refl _⟩
  unfold xs_A.sz
  rw [s1, s2, s3]
  exact hs
theorem xs_Tr.off {h' : xw_M} (t : xs_Tr h A) {P : Nat → Prop} (o : xs_off P h h') (hP : ∀ c, xs_rg 175 c → ¬ P c) : xs_Tr h' A := by
  obtain ⟨T, C, hs, r⟩ := t
  exact ⟨T, C.off hs o hP, hs, r⟩
theorem xs_Tr.like (C : xs_CR 0 h A) (t : xs_Tr h A) (hs : A.sz) (fa : xs_fresh A) : ∃ h', mX1_becomeLike 175 0 h = some (h', ()) ∧ xs_CR 175 h' A ∧ xs_off (xs_rg 175) h h' := by
  obtain ⟨T, Ct, hsT, ft, t1, t2, t3⟩ := t
  exact xs_like1 C Ct hs fa ft ⟨t1, t2, t3⟩
theorem xs_W.room8 (w : xs_W A 99) {c p : Nat} (hp1 : 1 ≤ p) (hp8 : p ≤ 8) (hl : (A.ls (1 + c)).length ≤ p) : xs_W (A.set 8 c (nI p)) 99 := by
  obtain ⟨h1, h2, h3, h4, h5, h6⟩ := w
  have e1 : ∀ f, (A.set 8 c (nI p)).a 1 f = A.a 1 f := fun f => xs_set_ne (fun z => absurd z.1 (by decide))
  have e2 : ∀ f, (A.set 8 c (nI p)).a 2 f = A.a 2 f := fun f => xs_set_ne (fun z => absurd z.1 (by decide))
  have ep : ∀ f, (A.set 8 c (nI p)).pl f = A.pl f := fun f => congrArg Int32.toNatClampNeg (e2 f)
  refine ⟨h1, h2, fun f hf => by rw [e2]; exact h3 f hf, fun f hf => by rw [e1, ep]; exact h4 f hf, fun d hd => ?_, fun n hn => ⟨(h6 n hn).1, fun f hf => ?_⟩⟩
  · by_cases e : d = c
    · rw [e]
      exact ⟨p, hp1, hp8, xs_set_eq, hl⟩
    · rw [xs_set_ne (fun z => e z.2)]
      exact h5 d hd
  · have := (h6 n hn).2 f hf
    unfold xs_A.at at this ⊢
    rw [e1, ep]
    exact this
theorem xs_rgs {c : Nat} : xs_rg 0 c → ¬ xs_rg 175 c := by unfold xs_rg; omega
theorem xs_rgs2 {c : Nat} : xs_rg 175 c → ¬ xs_rg 0 c := by unfold xs_rg; omega
theorem xs_cPw {c p0 : Nat} (w : xs_W A 99) (fa : xs_fresh A) (hc : c < A.nC) (hp0 : 1 ≤ p0) (hl : (A.ls (1 + c)).length ≤ p0) : ∀ (m p n : Nat) (h : xw_M), p + m = 9 → p0 ≤ p → m < n → xs_CR 0 h A → xs_Tr h A → ∃ h' v, mX5_placesWanted_b17 350 (nI c) n h (nI p) = some (h', v, 0) ∧ xs_Pw A c m p v ∧ xs_CR 0 h' A ∧ xs_Tr h' A ∧ xs_off (xs_rg 175) h h' := by
  have h4 := w.1.1
  intro m
  induction m with
  | zero =>
    intro p n h hp hpp hn C t
    cases n with
    | zero => omega
    | succ n =>
      unfold mX5_placesWanted_b17
      rw [if_pos (by rw [show p = 9 by omega]; decide)]
      exact ⟨h, -1, rfl, rfl, C, t, xs_off.rf⟩
  | succ m ih =>
    intro p n h hp hpp hn C t
    cases n with
    | zero => omega
    | succ n =>
      unfold mX5_placesWanted_b17
      rw [if_neg (by rw [xs_e8]; exact nI_nlt (by omega) (by omega))]
      obtain ⟨h1, e1, C1, o1⟩ := t.like C w.1 fa
      rw [e1, Option.bind_some]
      dsimp only
      rw [xs_channelAt (by omega), Option.bind_some]
      dsimp only
      unfold xo_let
      have hd : A.dom 8 c := Or.inr (Or.inl ⟨rfl, by omega⟩)
      have C2 := C1.set w.1 hd (nI p)
      have C2 : xs_CR 175 (xw_st h1 (175 + 5 + 7 * c) 0 (nI p)) (A.set 8 c (nI p)) := C2
      have o2 : xs_off (xs_rg 175) h1 (xw_st h1 (175 + 5 + 7 * c) 0 (nI p)) := xs_off.st (by unfold xs_rg; omega)
      have w2 : xs_W (A.set 8 c (nI p)) 99 := w.room8 (by omega) (by omega) (by omega)
      have f2 : xs_fr A (A.set 8 c (nI p)) := xs_fr.rf.set (Or.inr (Or.inl ⟨rfl, hc⟩))
      obtain ⟨h3, T, e3, C3, w3, f3, o3⟩ := xs_cWd (K := mX5_placesWanted_b17 350 (nI c) n) (a1 := nI c) (a2 := nI p) 100 0 xo_n _ _ C2 w2 (by omega) (by decide)
      have oo := (o1.tr o2).tr o3
      have C3' : xs_CR 0 h3 A := C.off w.1 oo (fun c hc => xs_rgs hc)
      have t3 : xs_Tr h3 A := xs_Tr.of C3 (f2.tr f3) fa w.1
      rcases e3 with ⟨p1, e⟩ | ⟨p1, e⟩
      · exact ⟨h3, nI p, e, Or.inl ⟨p1, rfl⟩, C3', t3, oo⟩
      · obtain ⟨h4, v, e4, u4, C4, t4, o4⟩ := ih (p + 1) n h3 (by omega) (by omega) (by omega) C3' t3
        rw [nI_1] at e
        exact ⟨h4, v, e.trans e4, Or.inr ⟨p1, u4⟩, C4, t4, oo.tr o4⟩
end UT
