/-! the reference asks what would be -/
def xs_JR (A : xs_A) (k : Nat) (h : xw_M) : Prop := xs_K h A ∧ ∃ S, xs_R (h 356) A S k
/-- the row is brought back -/
def xs_bk (h h' : xw_M) : Prop := (∀ j, j < 204 → h' 356 j = h 357 j) ∧ xs_off (fun c => c = 356) h h'
section RU
variable {h : xw_M} {A : xs_A} {S : Nat → Nat} {k : Nat}
theorem xs_bk.tr {h1 h2 : xw_M} (o : xs_off (fun c => c = 356) h h1) (b : xs_bk h1 h2) : xs_bk h h2 := ⟨fun j hj => (b.1 j hj).trans (congrFun (o 357 (by decide)) j), o.tr b.2⟩
theorem xs_R.congr {g g' : Nat → Int32} (hR : xs_R g A S k) (hs : A.sz) (e : ∀ j, j < 204 → g' j = g j) : xs_R g' A S k := by
  obtain ⟨r1, r2, r3, r4, r5, r6⟩ := hR
  refine ⟨fun t i hd => ?_, fun n hn => ⟨(r2 n hn).1, ?_, fun i hi => ?_⟩, ?_, fun f hf => ?_, r5, r6⟩
  · rw [e _ (by have := (xs_m_ne hs hd).2.2.2; omega)]
    exact r1 t i hd
  · rw [e _ (by unfold xs_A.dL at hn; unfold xs_mn; split <;> omega)]
    exact (r2 n hn).2.1
  · have := (r2 n hn).1
    rw [e _ (by unfold xs_A.dL at hn; unfold xs_mb; split <;> omega)]
    exact (r2 n hn).2.2 i hi
  · rw [e 2 (by omega)]
    exact r3
  · rw [e _ (by omega)]
    exact r4 f hf
theorem xs_JR.off {h' : xw_M} (j : xs_JR A k h) (hs : A.sz) (e : ∀ j, j < 204 → h' 356 j = h 356 j) (o : ∀ c, 352 ≤ c → c ≤ 355 → h' c = h c) (o1 : h' 351 1 = h 351 1) (o2 : h' 351 2 = h 351 2) : xs_JR A k h' := by
  obtain ⟨K, S, R⟩ := j
  refine ⟨?_, S, R.congr hs e⟩
  unfold xs_K
  rw [o1, o2, o 352 (by decide) (by decide), o 353 (by decide) (by decide), o 354 (by decide) (by decide), o 355 (by decide) (by decide)]
  exact K
theorem xs_keep (h : xw_M) : ∃ h', mX6_keep 351 h = some (h', ()) ∧ (∀ j, j < 204 → h' 357 j = h 356 j) ∧ xs_off (fun c => c = 357) h h' := by
  unfold mX6_keep xo_let
  rw [if_pos (by decide)]
  refine ⟨_, rfl, fun j hj => ?_, fun c hc => ?_⟩
  · unfold xw_cp
    rw [if_pos rfl]
    unfold va_cpy
    rw [if_pos ⟨Nat.zero_le _, by show j < 0 + 204; omega⟩]
    show h 356 (0 + (j - 0)) = h 356 j
    rw [Nat.zero_add, Nat.sub_zero]
  · unfold xw_cp
    exact if_neg hc
theorem xs_bring (h : xw_M) : ∃ h', mX6_bringBack 351 h = some (h', ()) ∧ xs_bk h h' := by
  unfold mX6_bringBack xo_let
  rw [if_pos (by decide)]
  refine ⟨_, rfl, fun j hj => ?_, fun c hc => ?_⟩
  · unfold xw_cp
    rw [if_pos rfl]
    unfold va_cpy
    rw [if_pos ⟨Nat.zero_le _, by show j < 0 + 204; omega⟩]
    show h 357 (0 + (j - 0)) = h 357 j
    rw [Nat.zero_add, Nat.sub_zero]
  · unfold xw_cp
    exact if_neg hc
theorem xs_rTurnJ (j : xs_JR A k h) (w : xs_W A 99) (hk : k < 2 ^ 31) : ∃ h' k', mX6_turnOn 351 h = some (h', ()) ∧ xs_JR A.turn k' h' ∧ xs_off (fun c => c = 356) h h' ∧ k' ≤ k + 1 := by
  obtain ⟨K, S, R⟩ := j
  obtain ⟨h', S', k', e, K', R', o, q⟩ := xs_rTurn K R w hk
  exact ⟨h', k', e, ⟨K', S', R'⟩, o, q⟩
theorem xs_JR.st1 (j : xs_JR A k h) {f : Nat} (hf : f < A.nF) : h (351 + 5) (12 + f) = A.a 1 f := by
  obtain ⟨K, S, R⟩ := j
  exact R.getF (t := 1) (by omega) hf
theorem xs_r36 {a2 : Int32} (h : xw_M) : ∃ h', mX6_untilDone_b36 351 a2 h = some (h', if a2 ≤ 200 then a2 else -1) ∧ xs_bk h h' := by
  unfold mX6_untilDone_b36
  obtain ⟨h1, e1, b1⟩ := xs_bring h
  rw [e1, Option.bind_some]
  refine ⟨h1, ?_, b1⟩
  split <;> rfl
theorem xs_r30 {a2 : Int32} (h : xw_M) : ∃ h', mX6_untilStuck_b30 351 a2 h = some (h', if a2 ≤ 200 then a2 else -1) ∧ xs_bk h h' := by
  unfold mX6_untilStuck_b30
  obtain ⟨h1, e1, b1⟩ := xs_bring h
  rw [e1, Option.bind_some]
  refine ⟨h1, ?_, b1⟩
  split <;> rfl
theorem xs_rUd {f : Nat} : ∀ (m i n : Nat) (h : xw_M) (A : xs_A) (k : Nat), xs_JR A k h → xs_W A 99 → f < A.nF → i + m = 200 → m + 1 < n → k + m + 1 < 2 ^ 31 → ∃ h' v, mX6_untilDone_b6 351 (nI f) n h (nI i) = some (h', v) ∧ xs_Ud (fun P => P.a 1 f = 5) m i A v ∧ xs_bk h h' := by
  intro m
  induction m with
  | zero =>
    intro i n h A k j w hf hi hn hk
    cases n with
    | zero => omega
    | succ n =>
      have h8 := w.1.2.1
      have g1 := j.st1 hf
      have hi : i = 200 := by omega
      subst hi
      unfold mX6_untilDone_b6
      rw [if_neg (by decide), xs_i 12 (by decide), if_pos (xs_ix (i := 12 + f) (by omega) (by decide)), nI_clamp (n := 12 + f) (by omega)]
      by_cases e : A.a 1 f = 5
      · rw [if_pos (g1.trans e)]
        obtain ⟨h1, e1, b1⟩ := xs_r36 (a2 := nI 200) h
        exact ⟨h1, nI 200, e1, Or.inl ⟨e, rfl⟩, b1⟩
      · rw [if_neg (fun z => e (g1.symm.trans z))]
        obtain ⟨h1, k1, e1, j1, o1, q1⟩ := xs_rTurnJ j w (by omega)
        rw [e1, Option.bind_some]
        cases n with
        | zero => omega
        | succ n =>
          unfold mX6_untilDone_b6
          rw [if_pos (by decide)]
          obtain ⟨h2, e2, b2⟩ := xs_r36 (a2 := nI 200 + 1) h1
          exact ⟨h2, -1, e2, Or.inr ⟨e, rfl⟩, xs_bk.tr o1 b2⟩
  | succ m ih =>
    intro i n h A k j w hf hi hn hk
    cases n with
    | zero => omega
    | succ n =>
      have h8 := w.1.2.1
      have g1 := j.st1 hf
      unfold mX6_untilDone_b6
      rw [if_neg (by rw [show (200 : Int32) = nI 200 from by decide]; exact nI_nlt (by omega) (by omega)), xs_i 12 (by decide), if_pos (xs_ix (i := 12 + f) (by omega) (by decide)), nI_clamp (n := 12 + f) (by omega)]
      by_cases e : A.a 1 f = 5
      · rw [if_pos (g1.trans e)]
        obtain ⟨h1, e1, b1⟩ := xs_r36 (a2 := nI i) h
        rw [if_pos (by rw [show (200 : Int32) = nI 200 from by decide]; exact nI_le (by omega) (by omega))] at e1
        exact ⟨h1, nI i, e1, Or.inl ⟨e, rfl⟩, b1⟩
      · rw [if_neg (fun z => e (g1.symm.trans z))]
        obtain ⟨h1, k1, e1, j1, o1, q1⟩ := xs_rTurnJ j w (by omega)
        rw [e1, Option.bind_some, nI_1]
        obtain ⟨h2, v, e2, u2, b2⟩ := ih (i + 1) n h1 A.turn k1 j1 w.turn.1 (by rw [w.turn.2.2.1]; exact hf) (by omega) (by omega) (by omega)
        exact ⟨h2, v, e2, Or.inr ⟨e, u2⟩, xs_bk.tr o1 b2⟩
theorem xs_rInL {s : Int32} (j : xs_JR A k h) (h8 : A.nF ≤ 8) : ∀ (m i n d : Nat), i + m = A.nF → m < n → mX6_inState_b4 351 s n h (nI d) (nI i) = some (h, nI (d + xs_no A s m i)) := by
  intro m
  induction m with
  | zero =>
    intro i n d hi hn
    cases n with
    | zero => omega
    | succ n =>
      unfold mX6_inState_b4 xs_no
      rw [if_pos (by rw [j.1.2.1]; exact nI_le (by omega) (by omega)), Nat.add_zero]
  | succ m ih =>
    intro i n d hi hn
    cases n with
    | zero => omega
    | succ n =>
      have hi2 : i < A.nF := by omega
      have g1 := j.st1 hi2
      unfold mX6_inState_b4 xs_no
      rw [if_neg (by rw [j.1.2.1]; exact nI_ge hi2 (by omega)), xs_i 12 (by decide), if_pos (xs_ix (i := 12 + i) (by omega) (by decide)), nI_clamp (n := 12 + i) (by omega)]
      by_cases e : A.a 1 i = s
      · rw [if_pos (g1.trans e), if_pos e]
        unfold mX6_inState_b31
        rw [nI_1, nI_1, ih (i + 1) n (d + 1) (by omega) (by omega), Nat.add_assoc]
      · rw [if_neg (fun z => e (g1.symm.trans z)), if_neg e]
        unfold mX6_inState_b31
        rw [nI_1, Int32.add_zero, ih (i + 1) n d (by omega) (by omega), Nat.zero_add]
theorem xs_rIn {s : Int32} (j : xs_JR A k h) (h8 : A.nF ≤ 8) : mX6_inState 351 s h = some (h, nI (xs_no A s A.nF 0)) := by
  have := xs_rInL (s := s) j h8 A.nF 0 xo_n 0 (by omega) (by show A.nF < 300; omega)
  rw [Nat.zero_add] at this
  exact this
theorem xs_JR.len (j : xs_JR A k h) : h (351 + 5) 3 = nI (A.ls 0).length ∧ (A.ls 0).length ≤ 8 := by
  obtain ⟨K, S, R⟩ := j
  exact ⟨(R.2.1 0 (Or.inl rfl)).2.1, (R.2.1 0 (Or.inl rfl)).1⟩
theorem xs_rStuck (j : xs_JR A k h) (w : xs_W A 99) : ∃ x, mX6_stuck 351 h = some (h, x) ∧ ((x = 1 ∧ xs_stk A) ∨ (x = 0 ∧ ¬ xs_stk A)) := by
  have h8 := w.1.2.1
  have hl := j.len
  have hn3 := xs_no_le (A := A) (s := 3) A.nF 0
  have hn5 := xs_no_le (A := A) (s := 5) A.nF 0
  unfold mX6_stuck
  rw [show Int32.toNatClampNeg 3 = 3 from by decide]
  by_cases he : A.ls 0 = []
  · rw [if_pos (by rw [hl.1, he]; decide), xs_rIn j h8, Option.bind_some]
    dsimp only
    by_cases e3 : xs_no A 3 A.nF 0 = 0
    · have hsp : xs_sp A := fun f hf => ⟨(xs_sp.line w).mp he f hf, (xs_no_0 A.nF 0).mp e3 f (by omega) (by omega)⟩
      rw [if_pos (by rw [e3]; decide), xs_rIn j h8, Option.bind_some]
      dsimp only
      by_cases ea : xs_ad A
      · rw [if_pos (by rw [(xs_no_ad A).mpr ea, j.1.2.1]; exact Int32.le_refl _)]
        exact ⟨0, rfl, Or.inr ⟨rfl, fun z => z.2 ea⟩⟩
      · rw [if_neg (by
          rw [j.1.2.1]
          refine nI_ge ?_ (by omega)
          have : xs_no A 5 A.nF 0 ≠ A.nF := fun z => ea ((xs_no_ad A).mp z)
          omega)]
        exact ⟨1, rfl, Or.inl ⟨rfl, hsp, ea⟩⟩
    · rw [if_neg (nI_ne0 (by omega) (by omega))]
      exact ⟨0, rfl, Or.inr ⟨rfl, fun z => e3 ((xs_no_0 A.nF 0).mpr (fun f hf1 hf2 => (z.1 f (by omega)).2))⟩⟩
  · have hp : 0 < (A.ls 0).length := List.length_pos_iff.mpr he
    rw [if_neg (by rw [hl.1]; exact nI_ne0 hp (by omega))]
    exact ⟨0, rfl, Or.inr ⟨rfl, fun z => he ((xs_sp.line w).mpr (fun f hf => (z.1 f hf).1))⟩⟩
theorem xs_rUs : ∀ (m i n : Nat) (h : xw_M) (A : xs_A) (k : Nat), xs_JR A k h → xs_W A 99 → i + m = 200 → m + 1 < n → k + m + 1 < 2 ^ 31 → ∃ h' v, mX6_untilStuck_b6 351 n h (nI i) = some (h', v) ∧ xs_Ud xs_stk m i A v ∧ xs_bk h h' := by
  intro m
  induction m with
  | zero =>
    intro i n h A k j w hi hn hk
    cases n with
    | zero => omega
    | succ n =>
      have hi : i = 200 := by omega
      subst hi
      unfold mX6_untilStuck_b6
      rw [if_neg (by decide)]
      obtain ⟨x, ex, hx⟩ := xs_rStuck j w
      rw [ex, Option.bind_some]
      dsimp only
      rcases hx with ⟨rfl, hx⟩ | ⟨rfl, hx⟩
      · rw [if_neg (by decide)]
        obtain ⟨h1, e1, b1⟩ := xs_r30 (a2 := nI 200) h
        exact ⟨h1, nI 200, e1, Or.inl ⟨hx, rfl⟩, b1⟩
      · rw [if_pos rfl]
        obtain ⟨h1, k1, e1, j1, o1, q1⟩ := xs_rTurnJ j w (by omega)
        rw [e1, Option.bind_some]
        cases n with
        | zero => omega
        | succ n =>
          unfold mX6_untilStuck_b6
          rw [if_pos (by decide)]
          obtain ⟨h2, e2, b2⟩ := xs_r30 (a2 := nI 200 + 1) h1
          exact ⟨h2, -1, e2, Or.inr ⟨hx, rfl⟩, xs_bk.tr o1 b2⟩
  | succ m ih =>
    intro i n h A k j w hi hn hk
    cases n with
    | zero => omega
    | succ n =>
      unfold mX6_untilStuck_b6
      rw [if_neg (by rw [show (200 : Int32) = nI 200 from by decide]; exact nI_nlt (by omega) (by omega))]
      obtain ⟨x, ex, hx⟩ := xs_rStuck j w
      rw [ex, Option.bind_some]
      dsimp only
      rcases hx with ⟨rfl, hx⟩ | ⟨rfl, hx⟩
      · rw [if_neg (by decide)]
        obtain ⟨h1, e1, b1⟩ := xs_r30 (a2 := nI i) h
        rw [if_pos (by rw [show (200 : Int32) = nI 200 from by decide]; exact nI_le (by omega) (by omega))] at e1
        exact ⟨h1, nI i, e1, Or.inl ⟨hx, rfl⟩, b1⟩
      · rw [if_pos rfl]
        obtain ⟨h1, k1, e1, j1, o1, q1⟩ := xs_rTurnJ j w (by omega)
        rw [e1, Option.bind_some, nI_1]
        obtain ⟨h2, v, e2, u2, b2⟩ := ih (i + 1) n h1 A.turn k1 j1 w.turn.1 (by omega) (by omega) (by omega)
        exact ⟨h2, v, e2, Or.inr ⟨hx, u2⟩, xs_bk.tr o1 b2⟩
theorem xs_rSum {f : Nat} : ∀ (m i n : Nat) (h : xw_M) (A : xs_A) (k : Nat), xs_JR A k h → xs_W A 99 → f < A.nF → i + m ≤ 60 → m < n → k + m < 2 ^ 31 → ∃ h', mX6_sumIn_b41 351 (nI f) (nI (i + m)) n h (nI i) = some (h', (A.turns m).a 3 f) ∧ xs_bk h h' := by
  intro m
  induction m with
  | zero =>
    intro i n h A k j w hf hi hn hk
    cases n with
    | zero => omega
    | succ n =>
      have h8 := w.1.2.1
      obtain ⟨K, S, R⟩ := j
      have g3 : h (351 + 5) (28 + f) = A.a 3 f := R.getF (t := 3) (by omega) hf
      unfold mX6_sumIn_b41
      rw [if_pos (nI_le (by omega) (by omega)), xs_i 28 (by decide), if_pos (xs_ix (i := 28 + f) (by omega) (by decide)), nI_clamp (n := 28 + f) (by omega)]
      obtain ⟨h1, e1, b1⟩ := xs_bring h
      rw [e1, Option.bind_some, g3]
      exact ⟨h1, rfl, b1⟩
  | succ m ih =>
    intro i n h A k j w hf hi hn hk
    cases n with
    | zero => omega
    | succ n =>
      unfold mX6_sumIn_b41
      rw [if_neg (nI_ge (by omega) (by omega))]
      obtain ⟨h1, k1, e1, j1, o1, q1⟩ := xs_rTurnJ j w (by omega)
      rw [e1, Option.bind_some, nI_1, show i + (m + 1) = i + 1 + m by omega]
      obtain ⟨h2, e2, b2⟩ := ih (i + 1) n h1 A.turn k1 j1 w.turn.1 (by rw [w.turn.2.2.1]; exact hf) (by omega) (by omega) (by omega)
      exact ⟨h2, e2, xs_bk.tr o1 b2⟩
theorem xs_rRun {a2 : Int32} : ∀ (m i n : Nat) (h : xw_M) (A : xs_A) (k : Nat), xs_JR A k h → xs_W A 99 → i + m ≤ 60 → m < n → k + m < 2 ^ 31 → ∃ h' k', mX6_run_b30 351 (nI (i + m)) a2 n h (nI i) = some (h', (A.turns m).a 10 0 - a2) ∧ xs_JR (A.turns m) k' h' ∧ xs_off (fun c => c = 356) h h' ∧ k' ≤ k + m := by
  intro m
  induction m with
  | zero =>
    intro i n h A k j w hi hn hk
    cases n with
    | zero => omega
    | succ n =>
      obtain ⟨K, S, R⟩ := j
      have g10 : h (351 + 5) 1 = A.a 10 0 := R.1 10 0 (Or.inr (Or.inr (Or.inr (Or.inl ⟨rfl, rfl⟩))))
      unfold mX6_run_b30
      rw [if_pos (nI_le (by omega) (by omega)), show Int32.toNatClampNeg 1 = 1 from by decide, g10]
      exact ⟨h, k, rfl, ⟨K, S, R⟩, xs_off.rf, Nat.le_refl _⟩
  | succ m ih =>
    intro i n h A k j w hi hn hk
    cases n with
    | zero => omega
    | succ n =>
      unfold mX6_run_b30
      rw [if_neg (nI_ge (by omega) (by omega))]
      obtain ⟨h1, k1, e1, j1, o1, q1⟩ := xs_rTurnJ j w (by omega)
      rw [e1, Option.bind_some, nI_1, show i + (m + 1) = i + 1 + m by omega]
      obtain ⟨h2, k2, e2, j2, o2, q2⟩ := ih (i + 1) n h1 A.turn k1 j1 w.turn.1 (by omega) (by omega) (by omega)
      exact ⟨h2, k2, e2, j2, o1.tr o2, by omega⟩
theorem xs_r71 {K : xw_M → Int32 → Int32 → Option (xw_M × Int32)} {a1 a2 a3 : Int32} (j : xs_JR A k h) (h8 : A.nF ≤ 8) : ∃ h', ((xs_ad A ∧ mX6_roomFor_b71 K 351 a1 a2 a3 h = K h' a3 (a3 + 1)) ∨ (¬ xs_ad A ∧ mX6_roomFor_b71 K 351 a1 a2 a3 h = K h' a2 (a3 + 1))) ∧ xs_bk h h' := by
  have hl := xs_no_le (A := A) (s := 5) A.nF 0
  obtain ⟨h1, e1, b1⟩ := xs_bring h
  unfold mX6_roomFor_b71 mX6_roomFor_b85
  rw [xs_rIn j h8, Option.bind_some]
  dsimp only
  rw [e1, Option.bind_some, Option.bind_some]
  refine ⟨h1, ?_, b1⟩
  by_cases e : xs_ad A
  · rw [if_pos (by rw [(xs_no_ad A).mpr e]; exact j.1.2.1.symm)]
    exact Or.inl ⟨e, rfl⟩
  · rw [if_neg (fun z => e ((xs_no_ad A).mp ((nI_eq (by omega) (by omega)).mp (z.trans j.1.2.1))))]
    exact Or.inr ⟨e, rfl⟩
theorem xs_rWd {K : xw_M → Int32 → Int32 → Option (xw_M × Int32)} {a1 a2 a3 : Int32} : ∀ (m i n : Nat) (h : xw_M) (A : xs_A) (k : Nat), xs_JR A k h → xs_W A 99 → i + m = 100 → m < n → k + m < 2 ^ 31 → ∃ h', ((xs_Wd m A ∧ mX6_roomFor_b42 K 351 a1 a2 a3 n h (nI i) = K h' a3 (a3 + 1)) ∨ (¬ xs_Wd m A ∧ mX6_roomFor_b42 K 351 a1 a2 a3 n h (nI i) = K h' a2 (a3 + 1))) ∧ xs_bk h h' := by
  intro m
  induction m with
  | zero =>
    intro i n h A k j w hi hn hk
    cases n with
    | zero => omega
    | succ n =>
      unfold mX6_roomFor_b42
      rw [if_pos (by rw [show i = 100 by omega]; decide)]
      exact xs_r71 j w.1.2.1
  | succ m ih =>
    intro i n h A k j w hi hn hk
    cases n with
    | zero => omega
    | succ n =>
      have h8 := w.1.2.1
      have hl := xs_no_le (A := A) (s := 5) A.nF 0
      unfold mX6_roomFor_b42
      rw [if_neg (by rw [show (100 : Int32) = nI 100 from by decide]; exact nI_ge (by omega) (by omega)), xs_rIn j h8, Option.bind_some]
      dsimp only
      by_cases e : xs_ad A
      · rw [if_pos (by rw [(xs_no_ad A).mpr e, j.1.2.1]; exact Int32.le_refl _)]
        obtain ⟨h1, e1, b1⟩ := xs_r71 (K := K) (a1 := a1) (a2 := a2) (a3 := a3) j h8
        refine ⟨h1, ?_, b1⟩
        rcases e1 with ⟨p, e1⟩ | ⟨p, e1⟩
        · exact Or.inl ⟨Or.inl p, e1⟩
        · exact absurd e p
      · rw [if_neg (by
          rw [j.1.2.1]
          refine nI_ge ?_ (by omega)
          have : xs_no A 5 A.nF 0 ≠ A.nF := fun z => e ((xs_no_ad A).mp z)
          omega)]
        obtain ⟨h1, k1, e1, j1, o1, q1⟩ := xs_rTurnJ j w (by omega)
        rw [e1, Option.bind_some, nI_1]
        obtain ⟨h2, e2, b2⟩ := ih (i + 1) n h1 A.turn k1 j1 w.turn.1 (by omega) (by omega) (by omega)
        refine ⟨h2, ?_, xs_bk.tr o1 b2⟩
        rcases e2 with ⟨p, e2⟩ | ⟨p, e2⟩
        · exact Or.inl ⟨Or.inr p, e2⟩
        · exact Or.inr ⟨fun z => z.elim e p, e2⟩
theorem xs_rPw {c p0 : Nat} (w : xs_W A 99) (hc : c < A.nC) (hp0 : 1 ≤ p0) (hl : (A.ls (1 + c)).length ≤ p0) (hk : k + 100 < 2 ^ 31) : ∀ (m p n : Nat) (h : xw_M), p + m = 9 → p0 ≤ p → m + 1 < n → xs_JR A k h → (∀ j, j < 204 → h 357 j = h 356 j) → ∃ h' v, mX6_roomFor_b17 351 (nI c) n h (-1) (nI p) = some (h', v) ∧ xs_Pw A c m p v ∧ xs_bk h h' := by
  have h4 := w.1.1
  intro m
  induction m with
  | zero =>
    intro p n h hp hpp hn j hb
    cases n with
    | zero => omega
    | succ n =>
      unfold mX6_roomFor_b17
      rw [if_pos (by rw [show p = 9 by omega]; decide)]
      exact ⟨h, -1, rfl, rfl, fun j hj => (hb j hj).symm, xs_off.rf⟩
  | succ m ih =>
    intro p n h hp hpp hn j hb
    cases n with
    | zero => omega
    | succ n =>
      unfold mX6_roomFor_b17
      rw [if_neg (by rw [xs_e8]; exact nI_nlt (by omega) (by omega)), if_pos rfl, xs_i 164 (by decide), if_pos (xs_ix (i := 164 + c) (by omega) (by decide)), nI_clamp (n := 164 + c) (by omega)]
      unfold xo_let
      have w2 : xs_W (A.set 8 c (nI p)) 99 := w.room8 (by omega) (by omega) (by omega)
      have o1 : xs_off (fun c => c = 356) h (xw_st h (351 + 5) (164 + c) (nI p)) := xs_off6
      have j2 : xs_JR (A.set 8 c (nI p)) k (xw_st h (351 + 5) (164 + c) (nI p)) := by
        obtain ⟨K, S, R⟩ := j
        refine ⟨K.st (A' := A.set 8 c (nI p)) xs_ss.rf o1, S, ?_⟩
        rw [show (351 + 5 : Nat) = 356 from rfl, xw_st_eq]
        exact R.set w.1 (t := 8) (i := c) (Or.inr (Or.inl ⟨rfl, by omega⟩)) (nI p) (fun z => absurd z (by decide))
      obtain ⟨h3, e3, b3⟩ := xs_rWd (K := mX6_roomFor_b17 351 (nI c) n) (a1 := nI c) (a2 := -1) (a3 := nI p) 100 0 xo_n _ _ k j2 w2 (by omega) (by decide) hk
      have b3 := xs_bk.tr o1 b3
      rcases e3 with ⟨p1, e⟩ | ⟨p1, e⟩
      · refine ⟨h3, nI p, e.trans ?_, Or.inl ⟨p1, rfl⟩, b3⟩
        cases n with
        | zero => omega
        | succ n =>
          unfold mX6_roomFor_b17
          by_cases h8 : 8 < nI p + 1
          · rw [if_pos h8]
          · rw [if_neg h8, if_neg (by intro z; have := nI_pos (n := p) (by omega); rw [z] at this; exact this (by decide))]
      · have j3 : xs_JR A k h3 := j.off w.1 (fun j hj => (b3.1 j hj).trans (hb j hj)) (fun c c1 c2 => b3.2 c (by show ¬ c = 356; omega)) (by rw [b3.2 351 (by decide)]) (by rw [b3.2 351 (by decide)])
        obtain ⟨h4, v, e4, u4, b4⟩ := ih (p + 1) n h3 (by omega) (by omega) (by omega) j3 (fun j hj => by rw [b3.2 357 (by decide), b3.1 j hj])
        rw [nI_1] at e
        exact ⟨h4, v, e.trans e4, Or.inr ⟨p1, u4⟩, xs_bk.tr b3.2 b4⟩
end RU
