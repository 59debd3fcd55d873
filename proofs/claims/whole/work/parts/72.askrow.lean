/-! the reference answers -/
section RA
variable {h : xw_M} {A : xs_A} {k : Nat}
theorem xs_JR.t0 (j : xs_JR A k h) (hs : A.sz) (t : Int32) : xs_JR A k (xw_st h 351 0 t) :=
  j.off hs (fun j _ => by rw [xw_st_ne _ _ _ _ (by decide)]) (fun c c1 c2 => xw_st_ne _ _ _ _ (by omega)) (xw_stj (fun z => absurd z.2 (by decide))) (xw_stj (fun z => absurd z.2 (by decide)))
theorem xs_t0c {t : Int32} : ∀ c, c < 350 ∨ c = 358 → xw_st h 351 0 t c = h c := fun c hc => xw_st_ne _ _ _ _ (by omega)
theorem xs_rOk (j : xs_JR A k h) (hs : A.sz) {v : Int32} : xs_rS h (mX6_ok 351 v h) v 0 A k := ⟨_, rfl, j.t0 hs 0, xw_stE, xs_t0c⟩
theorem xs_rNo (j : xs_JR A k h) (hs : A.sz) {t : Int32} : xs_rS h (mX6_no 351 t h) 0 t A k := ⟨_, rfl, j.t0 hs t, xw_stE, xs_t0c⟩
theorem xs_rS.pre {β : Type} {h1 : xw_M} {o : Option (xw_M × β)} {r : β} {t : Int32} (s : xs_rS h1 o r t A k) (c : ∀ c, c < 350 ∨ c = 358 → h1 c = h c) : xs_rS h o r t A k := by
  obtain ⟨h', e, j, ht, hc⟩ := s
  exact ⟨h', e, j, ht, fun x hx => (hc x hx).trans (c x hx)⟩
theorem xs_rS.bnd {β : Type} {o : Option (xw_M × β)} {r : β} {t : Int32} (s : xs_rS h o r t A k) : xs_rS h (o.bind fun r1 => some (r1.1, r1.2)) r t A k := by
  obtain ⟨h', e, q⟩ := s
  rw [e]
  exact ⟨h', rfl, q⟩
/-- one that looks alone, behind a 0 -/
theorem xs_rS.look {β : Type} {r : β} (j : xs_JR A k h) (hs : A.sz) : xs_rS h (some (xw_st h 351 0 0, r)) r 0 A k := ⟨_, rfl, j.t0 hs 0, xw_stE, xs_t0c⟩
theorem xs_from1 {i n : Nat} (hi : i < n) (hn : n < 2 ^ 31) : mX6_isFrom (nI i) 0 (nI n - 1) h = some (h, 1) := by
  obtain ⟨m, rfl⟩ : ∃ m, n = m + 1 := ⟨n - 1, by omega⟩
  unfold mX6_isFrom
  rw [if_neg (nI_pos (by omega)), nI_pred, if_neg (nI_nlt (by omega) (by omega))]
theorem xs_from0 {x : Int32} {n : Nat} (hn : n < 2 ^ 31) (hx : ∀ i, i < n → x ≠ nI i) : mX6_isFrom x 0 (nI n - 1) h = some (h, 0) := by
  unfold mX6_isFrom
  by_cases h0 : x < 0
  · rw [if_pos h0]
  · obtain ⟨i, hi, rfl⟩ := nI_of h0
    have hle : n ≤ i := Nat.le_of_not_lt (fun z => hx i z rfl)
    rw [if_neg h0, if_pos]
    cases n with
    | zero =>
      rw [Int32.lt_iff_toInt_lt, nI_toInt hi, show (nI 0 - 1).toInt = -1 from by decide]
      omega
    | succ m =>
      rw [nI_pred]
      exact nI_lt (by omega) hi
theorem xs_rF1 (j : xs_JR A k h) (h8 : A.nF ≤ 8) {f : Nat} (hf : f < A.nF) : mX6_isFiber 351 (nI f) h = some (h, 1) := by
  unfold mX6_isFiber
  rw [j.1.2.1, xs_from1 hf (by omega), Option.bind_some]
  exact if_pos (Or.inr rfl)
theorem xs_rF0 (j : xs_JR A k h) (h8 : A.nF ≤ 8) {x : Int32} (hx : ∀ f, f < A.nF → x ≠ nI f) : mX6_isFiber 351 x h = some (h, 0) := by
  unfold mX6_isFiber
  rw [j.1.2.1, xs_from0 (by omega) hx, Option.bind_some]
  exact if_pos (Or.inl rfl)
theorem xs_rC1 (j : xs_JR A k h) (h4 : A.nC ≤ 4) {f : Nat} (hf : f < A.nC) : mX6_isChannel 351 (nI f) h = some (h, 1) := by
  unfold mX6_isChannel
  rw [j.1.1, xs_from1 hf (by omega), Option.bind_some]
  exact if_pos (Or.inr rfl)
theorem xs_rC0 (j : xs_JR A k h) (h4 : A.nC ≤ 4) {x : Int32} (hx : ∀ f, f < A.nC → x ≠ nI f) : mX6_isChannel 351 x h = some (h, 0) := by
  unfold mX6_isChannel
  rw [j.1.1, xs_from0 (by omega) hx, Option.bind_some]
  exact if_pos (Or.inl rfl)
theorem xs_rT1 {t : Nat} (h1 : 1 ≤ t) (h2 : t ≤ 60) : mX6_isFrom (nI t) 1 60 h = some (h, 1) := by
  unfold mX6_isFrom
  rw [if_neg (by rw [show (1 : Int32) = nI 1 from rfl]; exact nI_nlt h1 (by omega)), if_neg (by rw [show (60 : Int32) = nI 60 from by decide]; exact nI_nlt h2 (by omega))]
theorem xs_rT0 {x : Int32} (hx : ∀ t, 1 ≤ t → t ≤ 60 → x ≠ nI t) : mX6_isFrom x 1 60 h = some (h, 0) := by
  unfold mX6_isFrom
  by_cases h1 : x < 1
  · rw [if_pos h1]
  · rw [if_neg h1]
    by_cases h60 : x ≤ 60
    · obtain ⟨i, hi, rfl⟩ := nI_of2 (x := x) (M := 60) (n := 60) (by decide) (fun z => h1 (Int32.lt_of_lt_of_le z (by decide))) h60
      have : 1 ≤ i := Nat.le_of_not_lt (fun z => h1 (by rw [show i = 0 by omega]; decide))
      exact absurd rfl (hx i this hi)
    · rw [if_pos (Int32.not_le.mp h60)]
theorem xs_rTime (j : xs_JR A k h) (hs : A.sz) : xs_rS h (mX6_time 351 h) (A.a 9 0) 0 A k := by
  have g : h (351 + 5) 0 = A.a 9 0 := by
    obtain ⟨K, S, R⟩ := j
    exact R.1 9 0 (Or.inr (Or.inr (Or.inl ⟨rfl, rfl⟩)))
  unfold mX6_time
  rw [show Int32.toNatClampNeg 0 = 0 from by decide, g]
  exact (xs_rOk j hs).bnd
theorem xs_rIdle (j : xs_JR A k h) (hs : A.sz) : xs_rS h (mX6_idleTurns 351 h) (A.a 10 0) 0 A k := by
  have g : h (351 + 5) 1 = A.a 10 0 := by
    obtain ⟨K, S, R⟩ := j
    exact R.1 10 0 (Or.inr (Or.inr (Or.inr (Or.inl ⟨rfl, rfl⟩))))
  unfold mX6_idleTurns
  rw [show Int32.toNatClampNeg 1 = 1 from by decide, g]
  exact (xs_rOk j hs).bnd
theorem xs_rChannels (j : xs_JR A k h) (hs : A.sz) : xs_rS h (mX6_channels 351 h) (nI A.nC) 0 A k := by
  unfold mX6_channels
  rw [j.1.1]
  exact (xs_rOk j hs).bnd
theorem xs_rFibers (j : xs_JR A k h) (hs : A.sz) : xs_rS h (mX6_fibers 351 h) (nI A.nF) 0 A k := by
  unfold mX6_fibers
  rw [j.1.2.1]
  exact (xs_rOk j hs).bnd
theorem xs_rDoneQ (j : xs_JR A k h) (hs : A.sz) : xs_rS h (mX6_done_ 351 h) (nI (xs_no A 5 A.nF 0)) 0 A k := by
  unfold mX6_done_
  rw [xs_rIn j hs.2.1, Option.bind_some]
  exact (xs_rOk j hs).bnd
theorem xs_rFirst (j : xs_JR A k h) : mX6_first 351 h = some (h, xs_nx A) := by
  obtain ⟨K, S, R⟩ := j
  obtain ⟨q1, q2, q3⟩ := R.2.1 0 (Or.inl rfl)
  have q2 : h (351 + 5) 3 = nI (A.ls 0).length := q2
  unfold mX6_first xs_nx
  rw [show Int32.toNatClampNeg 3 = 3 from by decide, show Int32.toNatClampNeg 4 = 4 from by decide]
  cases he : A.ls 0 with
  | nil =>
    rw [he] at q2
    rw [if_pos (by rw [q2]; decide)]
  | cons x l =>
    rw [he] at q1 q2 q3
    have hv : h (351 + 5) 4 = x := q3 0 (Nat.succ_pos _)
    rw [if_neg (by rw [q2]; exact nI_ne0 (n := (x :: l).length) (Nat.succ_pos _) (by omega)), hv]
theorem xs_rNext (j : xs_JR A k h) (hs : A.sz) : xs_rS h (mX6_next 351 h) (xs_nx A) 0 A k := by
  unfold mX6_next
  rw [xs_rFirst j, Option.bind_some]
  exact (xs_rOk j hs).bnd
theorem xs_rStk (j : xs_JR A k h) (w : xs_W A 99) : mX6_stuck 351 h = some (h, xs_stv A) := by
  obtain ⟨x, ex, hx⟩ := xs_rStuck j w
  rw [ex, xs_stv_eq hx]
theorem xs_rIsStuck (j : xs_JR A k h) (w : xs_W A 99) : xs_rS h (mX6_isStuck 351 h) (xs_stv A) 0 A k := by
  unfold mX6_isStuck xo_let
  dsimp only
  rw [xs_rStk (j.t0 w.1 0) w, Option.bind_some]
  dsimp only
  rw [if_pos xs_stv_01]
  exact xs_rS.look j w.1
/-- a question about what would be: the row is kept and brought back -/
def xs_rU {β : Type} (h : xw_M) (o : Option (xw_M × β)) (r : β) (A : xs_A) (k : Nat) : Prop := ∃ h', o = some (h', r) ∧ xs_JR A k h' ∧ ∀ c, c ≠ 356 → c ≠ 357 → h' c = h c
theorem xs_rU.rS {β : Type} {o : Option (xw_M × β)} {r : β} {h1 : xw_M} (u : xs_rU h1 o r A k) (ht : h1 351 0 = 0) (hc : ∀ c, c < 350 ∨ c = 358 → h1 c = h c) : xs_rS h o r 0 A k := by
  obtain ⟨h', e, j, o⟩ := u
  exact ⟨h', e, j, by rw [o 351 (by decide) (by decide)]; exact ht, fun c c1 => (o c (by omega) (by omega)).trans (hc c c1)⟩
theorem xs_kb {h1 h2 : xw_M} (j : xs_JR A k h) (hs : A.sz) (k1 : ∀ j, j < 204 → h1 357 j = h 356 j) (o1 : xs_off (fun c => c = 357) h h1) (b : xs_bk h1 h2) : xs_JR A k h2 ∧ ∀ c, c ≠ 356 → c ≠ 357 → h2 c = h c := by
  have oo : ∀ c, c ≠ 356 → c ≠ 357 → h2 c = h c := fun c c1 c2 => (b.2 c c1).trans (o1 c c2)
  exact ⟨j.off hs (fun i hi => (b.1 i hi).trans (k1 i hi)) (fun c c1 c2 => oo c (by omega) (by omega)) (by rw [oo 351 (by decide) (by decide)]) (by rw [oo 351 (by decide) (by decide)]), oo⟩
theorem xs_JR.kp {h1 : xw_M} (j : xs_JR A k h) (hs : A.sz) (o1 : xs_off (fun c => c = 357) h h1) : xs_JR A k h1 :=
  j.off hs (fun i _ => by rw [o1 356 (by decide)]) (fun c c1 c2 => o1 c (by show ¬ c = 357; omega)) (by rw [o1 351 (by decide)]) (by rw [o1 351 (by decide)])
theorem xs_rUntilDone (j : xs_JR A k h) (w : xs_W A 99) (hk : k + 201 < 2 ^ 31) {f : Nat} (hf : f < A.nF) : xs_rU h (mX6_untilDone 351 (nI f) h) (xs_udv (fun P => P.a 1 f = 5) A) A k := by
  unfold mX6_untilDone
  obtain ⟨h1, e1, k1, o1⟩ := xs_keep h
  rw [e1, Option.bind_some]
  obtain ⟨h2, v, e2, u2, b2⟩ := xs_rUd (f := f) 200 0 xo_n h1 A k (j.kp w.1 o1) w hf (by omega) (by decide) (by omega)
  rw [xs_udv_eq u2] at e2
  exact ⟨h2, e2, xs_kb j w.1 k1 o1 b2⟩
theorem xs_rUntilStuck (j : xs_JR A k h) (w : xs_W A 99) (hk : k + 201 < 2 ^ 31) : xs_rU h (mX6_untilStuck 351 h) (xs_udv xs_stk A) A k := by
  unfold mX6_untilStuck
  obtain ⟨h1, e1, k1, o1⟩ := xs_keep h
  rw [e1, Option.bind_some]
  obtain ⟨h2, v, e2, u2, b2⟩ := xs_rUs 200 0 xo_n h1 A k (j.kp w.1 o1) w (by omega) (by decide) (by omega)
  rw [xs_udv_eq u2] at e2
  exact ⟨h2, e2, xs_kb j w.1 k1 o1 b2⟩
theorem xs_rRoomFor (j : xs_JR A k h) (w : xs_W A 99) (hk : k + 201 < 2 ^ 31) {c : Nat} (hc : c < A.nC) : xs_rU h (mX6_roomFor 351 (nI c) h) (xs_pwv A c) A k := by
  have h4 := w.1.1
  obtain ⟨p, p1, p2, p3, p4⟩ := w.pw hc
  have g8 : h 356 (164 + c) = A.a 8 c := by
    obtain ⟨K, S, R⟩ := j
    exact R.1 8 c (Or.inr (Or.inl ⟨rfl, by omega⟩))
  unfold mX6_roomFor
  obtain ⟨h1, e1, k1, o1⟩ := xs_keep h
  rw [e1, Option.bind_some]
  dsimp only
  rw [xs_i 164 (by decide), if_pos (xs_ix (i := 164 + c) (by omega) (by decide)), nI_clamp (n := 164 + c) (by omega), show h1 (351 + 6) (164 + c) = nI p from (k1 (164 + c) (by omega)).trans (g8.trans p3)]
  obtain ⟨h2, v, e2, u2, b2⟩ := xs_rPw w hc p1 p4 (k := k) (by omega) (9 - p) p xo_n h1 (by omega) (Nat.le_refl _) (by show 9 - p + 1 < 300; omega) (j.kp w.1 o1) (fun i hi => by rw [k1 i hi, o1 356 (by decide)])
  rw [xs_pwv_eq p3 p2 u2] at e2
  exact ⟨h2, e2, xs_kb j w.1 k1 o1 b2⟩
theorem xs_rUntilStuckQ (j : xs_JR A k h) (w : xs_W A 99) (hk : k + 201 < 2 ^ 31) : xs_rS h (mX6_turnsUntilStuck 351 h) (xs_udv xs_stk A) 0 A k := by
  unfold mX6_turnsUntilStuck
  obtain ⟨h1, e1, j1, o1⟩ := xs_rUntilStuck j w hk
  rw [e1, Option.bind_some]
  exact ((xs_rOk j1 w.1).bnd).pre (fun c hc => o1 c (by omega) (by omega))
end RA
section RB
variable {h : xw_M} {A : xs_A} {k : Nat}
theorem xs_rHeldIn (j : xs_JR A k h) (h4 : A.nC ≤ 4) {c : Nat} (hc : c < A.nC) : mX6_heldIn 351 (nI c) h = some (h, nI (A.ls (1 + c)).length) := by
  obtain ⟨K, S, R⟩ := j
  have q := (R.2.1 (1 + c) (Or.inr ⟨by omega, by omega⟩)).2.1
  have em : xs_mn (1 + c) = 168 + c := by unfold xs_mn; rw [if_neg (by omega)]; omega
  rw [em] at q
  unfold mX6_heldIn
  rw [xs_i 168 (by decide), if_pos (xs_ix (i := 168 + c) (by omega) (by decide)), nI_clamp (n := 168 + c) (by omega), q]
theorem xs_rDrop (j : xs_JR A k h) (h4 : A.nC ≤ 4) {c i : Nat} (hc : c < A.nC) (hi : i < (A.ls (1 + c)).length) : xo_ix ((172 : Int32) + 8 * nI c + nI i) 204 = true ∧ h (351 + 5) (Int32.toNatClampNeg ((172 : Int32) + 8 * nI c + nI i)) = (A.ls (1 + c)).getD i 0 := by
  obtain ⟨K, S, R⟩ := j
  obtain ⟨q1, q2, q3⟩ := R.2.1 (1 + c) (Or.inr ⟨by omega, by omega⟩)
  have eb : xs_mb (1 + c) = 172 + 8 * c := by unfold xs_mb; rw [if_neg (by omega)]; omega
  rw [xs_8c, nI_add, nI_clamp (by omega)]
  refine ⟨xs_ix (by omega) (by decide), ?_⟩
  have := q3 i hi
  rw [eb] at this
  exact this
theorem xs_rWaitL2 {s x : Int32} (j : xs_JR A k h) (w : xs_W A 99) (hs : s = 1 ∨ s = 2 ∨ s = 4) : ∀ (m i n d : Nat), i + m = A.nF → m < n → mX6_waiting_b5 351 x s n h (nI d) (nI i) = some (h, nI (d + xs_cq (fun f => decide (A.a 1 f = s ∧ A.on f (A.pl f) = x)) m i)) := by
  have h8 := w.1.2.1
  obtain ⟨K, S, R⟩ := j
  intro m
  induction m with
  | zero =>
    intro i n d hi hn
    cases n with
    | zero => omega
    | succ n =>
      unfold mX6_waiting_b5 xs_cq
      rw [if_pos (by rw [K.2.1]; exact nI_le (by omega) (by omega)), Nat.add_zero]
  | succ m ih =>
    intro i n d hi hn
    cases n with
    | zero => omega
    | succ n =>
      have hi2 : i < A.nF := by omega
      unfold mX6_waiting_b5 xs_cq
      rw [if_neg (by rw [K.2.1]; exact nI_ge hi2 (by omega)), xs_rWaits K R w.1 hi2 (w.hp hs i hi2), Option.bind_some]
      dsimp only
      by_cases e : A.a 1 i = s ∧ A.on i (A.pl i) = x
      · rw [if_pos e, if_neg (by decide), if_pos (decide_eq_true e)]
        unfold mX6_waiting_b31
        rw [nI_1, nI_1, ih (i + 1) n (d + 1) (by omega) (by omega), Nat.add_assoc]
      · rw [if_neg e, if_pos rfl, if_neg (fun z => e (of_decide_eq_true z))]
        unfold mX6_waiting_b31
        rw [nI_1, Int32.add_zero, ih (i + 1) n d (by omega) (by omega), Nat.zero_add]
theorem xs_rWaiting5 (j : xs_JR A k h) (w : xs_W A 99) {c : Nat} (hc : c < A.nC) : mX6_waiting 351 (nI c) 1 h = some (h, nI (A.ls (5 + c)).length) := by
  have h8 := w.1.2.1
  have := xs_rWaitL2 (s := 1) (x := nI c) j w (Or.inl rfl) A.nF 0 xo_n 0 (by omega) (by show A.nF < 300; omega)
  rw [Nat.zero_add] at this
  rw [w.cq (xs_fL hc).1, xs_cq_congr (q := fun f => decide (A.a 1 f = 1 ∧ A.on f (A.pl f) = nI c)) A.nF 0 (fun g g1 g2 => by rw [decide_eq_decide]; exact (w.at5 hc g (by omega)).symm)]
  exact this
theorem xs_rWaiting9 (j : xs_JR A k h) (w : xs_W A 99) {c : Nat} (hc : c < A.nC) : mX6_waiting 351 (nI c) 2 h = some (h, nI (A.ls (9 + c)).length) := by
  have h8 := w.1.2.1
  have := xs_rWaitL2 (s := 2) (x := nI c) j w (Or.inr (Or.inl rfl)) A.nF 0 xo_n 0 (by omega) (by show A.nF < 300; omega)
  rw [Nat.zero_add] at this
  rw [w.cq (xs_fL hc).2, xs_cq_congr (q := fun f => decide (A.a 1 f = 2 ∧ A.on f (A.pl f) = nI c)) A.nF 0 (fun g g1 g2 => by rw [decide_eq_decide]; exact (w.at9 hc g (by omega)).symm)]
  exact this
theorem xs_rInLineL {x : Int32} (j : xs_JR A k h) : ∀ (n i : Nat), (A.ls 0).length < n + i → i ≤ (A.ls 0).length → mX6_inLine_b2 351 x n h (nI i) = some (h, xs_ff x ((A.ls 0).drop i) i) := by
  obtain ⟨K, S, R⟩ := j
  obtain ⟨q1, q2, q3⟩ := R.2.1 0 (Or.inl rfl)
  have q2 : h (351 + 5) 3 = nI (A.ls 0).length := q2
  intro n
  induction n with
  | zero => intro i h1 h2; omega
  | succ n ih =>
    intro i h1 h2
    unfold mX6_inLine_b2
    rw [show Int32.toNatClampNeg 3 = 3 from by decide]
    by_cases hi : i = (A.ls 0).length
    · rw [if_pos (by rw [q2, hi]; exact Int32.le_refl _), hi, List.drop_length]
      rfl
    · have hi2 : i < (A.ls 0).length := by omega
      have q4 : h (351 + 5) (4 + i) = (A.ls 0).getD i 0 := q3 i hi2
      rw [if_neg (by rw [q2]; exact nI_ge hi2 (by omega)), xs_i 4 (by decide), if_pos (xs_ix (i := 4 + i) (by omega) (by decide)), nI_clamp (n := 4 + i) (by omega), q4, List.drop_eq_getElem_cons hi2, List.getD_eq_getElem?_getD, List.getElem?_eq_getElem hi2]
      unfold xs_ff
      show (if (A.ls 0)[i] = x then _ else _) = _
      split
      · rfl
      · rw [nI_1]
        exact ih (i + 1) (by omega) (by omega)
theorem xs_rInLine (j : xs_JR A k h) {x : Int32} : mX6_inLine 351 x h = some (h, xs_ff x (A.ls 0) 0) := by
  have := j.len.2
  exact xs_rInLineL j xo_n 0 (by show (A.ls 0).length < 300 + 0; omega) (Nat.zero_le _)
theorem xs_rOf (j : xs_JR A k h) (hs : A.sz) {t f : Nat} (ht : 1 ≤ t ∧ t ≤ 6) (hf : f < A.nF) {q : Int32} (hq : q = nI (4 + 8 * t)) : xs_rS h (mX6_ofFiber 351 (nI f) q h) (A.a t f) 0 A k := by
  have h8 := hs.2.1
  unfold mX6_ofFiber xo_let
  dsimp only
  have j1 := j.t0 hs 0
  rw [xs_rF1 j1 h8 hf, Option.bind_some]
  dsimp only
  have g : xw_st h 351 0 0 (351 + 5) (4 + 8 * t + f) = A.a t f := by
    obtain ⟨K, S, R⟩ := j1
    exact R.getF ht hf
  rw [if_neg (by decide), hq, nI_add, if_pos (xs_ix (by omega) (by decide)), nI_clamp (by omega), g]
  exact xs_rS.look j hs
theorem xs_rOf0 (j : xs_JR A k h) (hs : A.sz) {x q : Int32} (hx : ∀ f, f < A.nF → x ≠ nI f) : xs_rS h (mX6_ofFiber 351 x q h) 0 1 A k := by
  have h8 := hs.2.1
  unfold mX6_ofFiber xo_let
  dsimp only
  have j1 := j.t0 hs 0
  rw [xs_rF0 j1 h8 hx, Option.bind_some]
  dsimp only
  rw [if_pos rfl]
  exact ((xs_rNo j1 hs).bnd).pre xs_t0c
theorem xs_r_stateOf (j : xs_JR A k h) (hs : A.sz) {f : Nat} (hf : f < A.nF) : xs_rS h (mX6_stateOf 351 (nI f) h) (A.a 1 f) 0 A k := (xs_rOf j hs (by decide) hf (by decide)).bnd
theorem xs_r0_stateOf (j : xs_JR A k h) (hs : A.sz) {x : Int32} (hx : ∀ f, f < A.nF → x ≠ nI f) : xs_rS h (mX6_stateOf 351 x h) 0 1 A k := (xs_rOf0 j hs hx).bnd
theorem xs_r_placeOf (j : xs_JR A k h) (hs : A.sz) {f : Nat} (hf : f < A.nF) : xs_rS h (mX6_placeOf 351 (nI f) h) (A.a 2 f) 0 A k := (xs_rOf j hs (by decide) hf (by decide)).bnd
theorem xs_r0_placeOf (j : xs_JR A k h) (hs : A.sz) {x : Int32} (hx : ∀ f, f < A.nF → x ≠ nI f) : xs_rS h (mX6_placeOf 351 x h) 0 1 A k := (xs_rOf0 j hs hx).bnd
theorem xs_r_sumOf (j : xs_JR A k h) (hs : A.sz) {f : Nat} (hf : f < A.nF) : xs_rS h (mX6_sumOf 351 (nI f) h) (A.a 3 f) 0 A k := (xs_rOf j hs (by decide) hf (by decide)).bnd
theorem xs_r0_sumOf (j : xs_JR A k h) (hs : A.sz) {x : Int32} (hx : ∀ f, f < A.nF → x ≠ nI f) : xs_rS h (mX6_sumOf 351 x h) 0 1 A k := (xs_rOf0 j hs hx).bnd
theorem xs_r_stepsDone (j : xs_JR A k h) (hs : A.sz) {f : Nat} (hf : f < A.nF) : xs_rS h (mX6_stepsDone 351 (nI f) h) (A.a 4 f) 0 A k := (xs_rOf j hs (by decide) hf (by decide)).bnd
theorem xs_r0_stepsDone (j : xs_JR A k h) (hs : A.sz) {x : Int32} (hx : ∀ f, f < A.nF → x ≠ nI f) : xs_rS h (mX6_stepsDone 351 x h) 0 1 A k := (xs_rOf0 j hs hx).bnd
theorem xs_r_turnsOf (j : xs_JR A k h) (hs : A.sz) {f : Nat} (hf : f < A.nF) : xs_rS h (mX6_turnsOf 351 (nI f) h) (A.a 5 f) 0 A k := (xs_rOf j hs (by decide) hf (by decide)).bnd
theorem xs_r0_turnsOf (j : xs_JR A k h) (hs : A.sz) {x : Int32} (hx : ∀ f, f < A.nF → x ≠ nI f) : xs_rS h (mX6_turnsOf 351 x h) 0 1 A k := (xs_rOf0 j hs hx).bnd
theorem xs_r0_held (j : xs_JR A k h) (hs : A.sz) {x : Int32} (hx : ∀ c, c < A.nC → x ≠ nI c) : xs_rS h (mX6_held 351 x h) 0 1 A k := by
  unfold mX6_held xo_let
  dsimp only
  have j1 := j.t0 hs 0
  rw [xs_rC0 j1 hs.1 hx, Option.bind_some]
  dsimp only
  rw [if_pos rfl]
  exact ((xs_rNo j1 hs).bnd).pre xs_t0c
theorem xs_r_held (j : xs_JR A k h) (hs : A.sz) {c : Nat} (hc : c < A.nC) : xs_rS h (mX6_held 351 (nI c) h) (nI (A.ls (1 + c)).length) 0 A k := by
  unfold mX6_held xo_let
  dsimp only
  have j1 := j.t0 hs 0
  rw [xs_rC1 j1 hs.1 hc, Option.bind_some]
  dsimp only
  rw [if_neg (by decide), xs_rHeldIn j1 hs.1 hc, Option.bind_some]
  exact xs_rS.look j hs
theorem xs_r0_sendersAt (j : xs_JR A k h) (hs : A.sz) {x : Int32} (hx : ∀ c, c < A.nC → x ≠ nI c) : xs_rS h (mX6_sendersAt 351 x h) 0 1 A k := by
  unfold mX6_sendersAt xo_let
  dsimp only
  have j1 := j.t0 hs 0
  rw [xs_rC0 j1 hs.1 hx, Option.bind_some]
  dsimp only
  rw [if_pos rfl]
  exact ((xs_rNo j1 hs).bnd).pre xs_t0c
theorem xs_r_sendersAt (j : xs_JR A k h) (w : xs_W A 99) {c : Nat} (hc : c < A.nC) : xs_rS h (mX6_sendersAt 351 (nI c) h) (nI (A.ls (5 + c)).length) 0 A k := by
  unfold mX6_sendersAt xo_let
  dsimp only
  have j1 := j.t0 w.1 0
  rw [xs_rC1 j1 w.1.1 hc, Option.bind_some]
  dsimp only
  rw [if_neg (by decide), xs_rWaiting5 j1 w hc, Option.bind_some]
  exact xs_rS.look j w.1
theorem xs_r0_takersAt (j : xs_JR A k h) (hs : A.sz) {x : Int32} (hx : ∀ c, c < A.nC → x ≠ nI c) : xs_rS h (mX6_takersAt 351 x h) 0 1 A k := by
  unfold mX6_takersAt xo_let
  dsimp only
  have j1 := j.t0 hs 0
  rw [xs_rC0 j1 hs.1 hx, Option.bind_some]
  dsimp only
  rw [if_pos rfl]
  exact ((xs_rNo j1 hs).bnd).pre xs_t0c
theorem xs_r_takersAt (j : xs_JR A k h) (w : xs_W A 99) {c : Nat} (hc : c < A.nC) : xs_rS h (mX6_takersAt 351 (nI c) h) (nI (A.ls (9 + c)).length) 0 A k := by
  unfold mX6_takersAt xo_let
  dsimp only
  have j1 := j.t0 w.1 0
  rw [xs_rC1 j1 w.1.1 hc, Option.bind_some]
  dsimp only
  rw [if_neg (by decide), xs_rWaiting9 j1 w hc, Option.bind_some]
  exact xs_rS.look j w.1
theorem xs_r0_valueAt (j : xs_JR A k h) (hs : A.sz) {x y : Int32} (hx : ∀ c, c < A.nC → x ≠ nI c) : xs_rS h (mX6_valueAt 351 x y h) 0 1 A k := by
  unfold mX6_valueAt mX6_valueAt_b46 xo_let
  dsimp only
  have j1 := j.t0 hs 0
  rw [xs_rC0 j1 hs.1 hx, Option.bind_some]
  dsimp only
  rw [if_pos rfl]
  exact ((xs_rNo j1 hs).bnd).pre xs_t0c
theorem xs_r1_valueAt (j : xs_JR A k h) (hs : A.sz) {c : Nat} {y : Int32} (hc : c < A.nC) (hy : ∀ i, i < (A.ls (1 + c)).length → y ≠ nI i) : xs_rS h (mX6_valueAt 351 (nI c) y h) 0 1 A k := by
  unfold mX6_valueAt mX6_valueAt_b46 xo_let
  dsimp only
  have j1 := j.t0 hs 0
  have hl : (A.ls (1 + c)).length ≤ 8 := by
    obtain ⟨K, S, R⟩ := j
    have := hs.1
    exact (R.2.1 (1 + c) (Or.inr ⟨by omega, by omega⟩)).1
  rw [xs_rC1 j1 hs.1 hc, Option.bind_some]
  dsimp only
  rw [if_neg (by decide), xs_rHeldIn j1 hs.1 hc, Option.bind_some]
  dsimp only
  rw [xs_from0 (by omega) hy, Option.bind_some]
  dsimp only
  rw [if_pos rfl]
  exact ((xs_rNo j1 hs).bnd).pre xs_t0c
theorem xs_r_valueAt (j : xs_JR A k h) (hs : A.sz) {c i : Nat} (hc : c < A.nC) (hi : i < (A.ls (1 + c)).length) : xs_rS h (mX6_valueAt 351 (nI c) (nI i) h) ((A.ls (1 + c)).getD i 0) 0 A k := by
  unfold mX6_valueAt mX6_valueAt_b46 xo_let
  dsimp only
  have j1 := j.t0 hs 0
  have hl : (A.ls (1 + c)).length ≤ 8 := by
    obtain ⟨K, S, R⟩ := j
    have := hs.1
    exact (R.2.1 (1 + c) (Or.inr ⟨by omega, by omega⟩)).1
  rw [xs_rC1 j1 hs.1 hc, Option.bind_some]
  dsimp only
  rw [if_neg (by decide), xs_rHeldIn j1 hs.1 hc, Option.bind_some]
  dsimp only
  rw [xs_from1 hi (by omega), Option.bind_some]
  dsimp only
  obtain ⟨d1, d2⟩ := xs_rDrop j1 hs.1 hc hi
  rw [if_neg (by decide), if_pos d1, d2]
  exact xs_rS.look j hs
theorem xs_r0_placeInLine (j : xs_JR A k h) (hs : A.sz) {x : Int32} (hx : ∀ f, f < A.nF → x ≠ nI f) : xs_rS h (mX6_placeInLine 351 x h) 0 1 A k := by
  unfold mX6_placeInLine xo_let
  dsimp only
  have j1 := j.t0 hs 0
  rw [xs_rF0 j1 hs.2.1 hx, Option.bind_some]
  dsimp only
  rw [if_pos rfl]
  exact ((xs_rNo j1 hs).bnd).pre xs_t0c
theorem xs_r_placeInLine (j : xs_JR A k h) (hs : A.sz) {f : Nat} (hf : f < A.nF) : xs_rS h (mX6_placeInLine 351 (nI f) h) (xs_ff (nI f) (A.ls 0) 0) 0 A k := by
  unfold mX6_placeInLine xo_let
  dsimp only
  have j1 := j.t0 hs 0
  rw [xs_rF1 j1 hs.2.1 hf, Option.bind_some]
  dsimp only
  rw [if_neg (by decide), xs_rInLine j1, Option.bind_some]
  exact xs_rS.look j hs
theorem xs_r0_turnsUntilDone (j : xs_JR A k h) (hs : A.sz) {x : Int32} (hx : ∀ f, f < A.nF → x ≠ nI f) : xs_rS h (mX6_turnsUntilDone 351 x h) 0 1 A k := by
  unfold mX6_turnsUntilDone xo_let
  dsimp only
  have j1 := j.t0 hs 0
  rw [xs_rF0 j1 hs.2.1 hx, Option.bind_some]
  dsimp only
  rw [if_pos rfl]
  exact ((xs_rNo j1 hs).bnd).pre xs_t0c
theorem xs_r_turnsUntilDone (j : xs_JR A k h) (w : xs_W A 99) (hk : k + 201 < 2 ^ 31) {f : Nat} (hf : f < A.nF) : xs_rS h (mX6_turnsUntilDone 351 (nI f) h) (xs_udv (fun P => P.a 1 f = 5) A) 0 A k := by
  unfold mX6_turnsUntilDone xo_let
  dsimp only
  have j1 := j.t0 w.1 0
  rw [xs_rF1 j1 w.1.2.1 hf, Option.bind_some]
  dsimp only
  rw [if_neg (by decide)]
  obtain ⟨h2, e2, j2, o2⟩ := xs_rUntilDone j1 w hk hf
  rw [e2, Option.bind_some]
  exact xs_rU.rS ⟨h2, rfl, j2, o2⟩ xw_stE xs_t0c
theorem xs_r0_placesWanted (j : xs_JR A k h) (hs : A.sz) {x : Int32} (hx : ∀ c, c < A.nC → x ≠ nI c) : xs_rS h (mX6_placesWanted 351 x h) 0 1 A k := by
  unfold mX6_placesWanted xo_let
  dsimp only
  have j1 := j.t0 hs 0
  rw [xs_rC0 j1 hs.1 hx, Option.bind_some]
  dsimp only
  rw [if_pos rfl]
  exact ((xs_rNo j1 hs).bnd).pre xs_t0c
theorem xs_r_placesWanted (j : xs_JR A k h) (w : xs_W A 99) (hk : k + 201 < 2 ^ 31) {c : Nat} (hc : c < A.nC) : xs_rS h (mX6_placesWanted 351 (nI c) h) (xs_pwv A c) 0 A k := by
  unfold mX6_placesWanted xo_let
  dsimp only
  have j1 := j.t0 w.1 0
  rw [xs_rC1 j1 w.1.1 hc, Option.bind_some]
  dsimp only
  rw [if_neg (by decide)]
  obtain ⟨h2, e2, j2, o2⟩ := xs_rRoomFor j1 w hk hc
  rw [e2, Option.bind_some]
  exact xs_rU.rS ⟨h2, rfl, j2, o2⟩ xw_stE xs_t0c
theorem xs_r0_sumIn (j : xs_JR A k h) (hs : A.sz) {x y : Int32} (hx : ∀ f, f < A.nF → x ≠ nI f) : xs_rS h (mX6_sumIn 351 x y h) 0 1 A k := by
  unfold mX6_sumIn xo_let
  dsimp only
  have j1 := j.t0 hs 0
  rw [xs_rF0 j1 hs.2.1 hx, Option.bind_some]
  dsimp only
  rw [if_pos rfl]
  exact ((xs_rNo j1 hs).bnd).pre xs_t0c
theorem xs_r1_sumIn (j : xs_JR A k h) (hs : A.sz) {f : Nat} {y : Int32} (hf : f < A.nF) (hy : ∀ t, 1 ≤ t → t ≤ 60 → y ≠ nI t) : xs_rS h (mX6_sumIn 351 (nI f) y h) 0 2 A k := by
  unfold mX6_sumIn xo_let
  dsimp only
  have j1 := j.t0 hs 0
  rw [xs_rF1 j1 hs.2.1 hf, Option.bind_some]
  dsimp only
  rw [if_neg (by decide), xs_rT0 hy, Option.bind_some]
  dsimp only
  rw [if_pos rfl]
  exact ((xs_rNo j1 hs).bnd).pre xs_t0c
theorem xs_r_sumIn (j : xs_JR A k h) (w : xs_W A 99) (hk : k + 201 < 2 ^ 31) {f t : Nat} (hf : f < A.nF) (h1 : 1 ≤ t) (h2 : t ≤ 60) : xs_rS h (mX6_sumIn 351 (nI f) (nI t) h) ((A.turns t).a 3 f) 0 A k := by
  unfold mX6_sumIn xo_let
  dsimp only
  have j1 := j.t0 w.1 0
  rw [xs_rF1 j1 w.1.2.1 hf, Option.bind_some]
  dsimp only
  rw [if_neg (by decide), xs_rT1 h1 h2, Option.bind_some]
  dsimp only
  rw [if_neg (by decide)]
  obtain ⟨h3, e3, k3, o3⟩ := xs_keep (xw_st h 351 0 0)
  rw [e3, Option.bind_some]
  obtain ⟨h4, e4, b4⟩ := xs_rSum (f := f) t 0 xo_n h3 A k (j1.kp w.1 o3) w hf (by omega) (by show t < 300; omega) (by omega)
  rw [Nat.zero_add] at e4
  exact xs_rU.rS ⟨h4, e4, xs_kb j1 w.1 k3 o3 b4⟩ xw_stE xs_t0c
theorem xs_rMeanL (j : xs_JR A k h) (h8 : A.nF ≤ 8) : ∀ (m i n : Nat) (s : Int32), i + m = A.nF → m < n → mX6_meanTurns_b9 351 n h s (nI i) = some (h, if A.nF = 0 then (0, 0, 0) else (1, xs_sm A m i s, nI A.nF)) := by
  obtain ⟨K, S, R⟩ := j
  intro m
  induction m with
  | zero =>
    intro i n s hi hn
    cases n with
    | zero => omega
    | succ n =>
      unfold mX6_meanTurns_b9 xs_sm
      rw [if_pos (by rw [K.2.1]; exact nI_le (by omega) (by omega))]
      by_cases e : A.nF = 0
      · rw [if_pos (by rw [K.2.1, e]; decide), if_pos e]
      · rw [if_neg (by rw [K.2.1]; exact nI_ne0 (by omega) (by omega)), if_neg e, K.2.1]
  | succ m ih =>
    intro i n s hi hn
    cases n with
    | zero => omega
    | succ n =>
      have hi2 : i < A.nF := by omega
      have g : h (351 + 5) (44 + i) = A.a 5 i := R.getF (t := 5) (by omega) hi2
      unfold mX6_meanTurns_b9 xs_sm
      rw [if_neg (by rw [K.2.1]; exact nI_ge hi2 (by omega)), xs_i 44 (by decide), if_pos (xs_ix (i := 44 + i) (by omega) (by decide)), nI_clamp (n := 44 + i) (by omega), g, nI_1]
      exact ih (i + 1) n _ (by omega) (by omega)
theorem xs_rMean (j : xs_JR A k h) (hs : A.sz) : xs_rS h (mX6_meanTurns 351 h) (if A.nF = 0 then (0, 0, 0) else (1, xs_sm A A.nF 0 0, nI A.nF)) 0 A k := by
  have h8 := hs.2.1
  unfold mX6_meanTurns xo_let
  dsimp only
  have e := xs_rMeanL (j.t0 hs 0) h8 A.nF 0 xo_n 0 (by omega) (by show A.nF < 300; omega)
  exact ⟨_, e, j.t0 hs 0, xw_stE, xs_t0c⟩
end RB
