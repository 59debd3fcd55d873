/-! the reference's checksum -/
def xs_dV (v : Nat → Int32) : Nat → Nat → Int64 → Int64
  | 0, _, d => d
  | m + 1, i, d => xs_dV v m (i + 1) (xs_d31 d (v i))
def xs_f5 (h : xw_M) (v0 v1 v2 v3 v4 : Int32) : xw_M := xw_st (xw_st (xw_st (xw_st (xw_st (xw_z h 360) 360 0 v0) 360 1 v1) 360 2 v2) 360 3 v3) 360 4 v4
def xs_z3 (h : xw_M) (v0 v1 v2 : Int32) : xw_M := xw_st (xw_st (xw_st (xw_z h 359) 359 0 v0) 359 1 v1) 359 2 v2
section DH
variable {h : xw_M} {A : xs_A} {k : Nat}
theorem xs_JR.hi {h' : xw_M} (j : xs_JR A k h) (hs : A.sz) (o : ∀ c, c < 359 → h' c = h c) : xs_JR A k h' :=
  j.off hs (fun i _ => by rw [o 356 (by decide)]) (fun c c1 c2 => o c (by omega)) (by rw [o 351 (by decide)]) (by rw [o 351 (by decide)])
theorem xs_z_ne {q c : Nat} (hc : c ≠ q) : xw_z h q c = h c := if_neg hc
theorem xs_f5_off {v0 v1 v2 v3 v4 : Int32} {c : Nat} (hc : c ≠ 360) : xs_f5 h v0 v1 v2 v3 v4 c = h c := by
  unfold xs_f5
  rw [xw_st_ne _ _ _ _ hc, xw_st_ne _ _ _ _ hc, xw_st_ne _ _ _ _ hc, xw_st_ne _ _ _ _ hc, xw_st_ne _ _ _ _ hc, xs_z_ne hc]
theorem xs_z3_off {v0 v1 v2 : Int32} {c : Nat} (hc : c ≠ 359) : xs_z3 h v0 v1 v2 c = h c := by
  unfold xs_z3
  rw [xw_st_ne _ _ _ _ hc, xw_st_ne _ _ _ _ hc, xw_st_ne _ _ _ _ hc, xs_z_ne hc]
theorem xs_r357 {K : xw_M → Int64 → Int32 → Option (xw_M × Int64)} {a4 : Int32} {v : Nat → Int32} (hv : ∀ j, j < 7 → h 360 j = v j) : ∀ (m i n : Nat) (d : Int64), i + m = 7 → m < n → mX6_digest_b357 K 351 a4 360 7 n h d (nI i) = K h (xs_dV v m i d) (a4 + 1) := by
  intro m
  induction m with
  | zero =>
    intro i n d hi hn
    cases n with
    | zero => omega
    | succ n =>
      unfold mX6_digest_b357
      rw [if_pos (by rw [show i = 7 by omega]; decide)]
      rfl
  | succ m ih =>
    intro i n d hi hn
    cases n with
    | zero => omega
    | succ n =>
      unfold mX6_digest_b357
      rw [if_neg (by rw [show (7 : Int32) = nI 7 from by decide]; exact nI_ge (by omega) (by omega)), if_pos (xs_ix (i := i) (by omega) (by decide)), nI_clamp (by omega), hv i (by omega), nI_1]
      exact ih (i + 1) n (xs_d31 d (v i)) (by omega) (by omega)
theorem xs_r96 {v : Nat → Int32} (hv : ∀ j, j < 8 → h 359 j = v j) : ∀ (m i n : Nat) (d : Int64), i + m = 8 → m < n → mX6_digest_b96 351 359 8 n h d (nI i) = mX6_digest_b129 351 xo_n h (xs_dV v m i d) (nI 0) := by
  intro m
  induction m with
  | zero =>
    intro i n d hi hn
    cases n with
    | zero => omega
    | succ n =>
      unfold mX6_digest_b96
      rw [if_pos (by rw [show i = 8 by omega]; decide)]
      rfl
  | succ m ih =>
    intro i n d hi hn
    cases n with
    | zero => omega
    | succ n =>
      unfold mX6_digest_b96
      rw [if_neg (by rw [xs_e8]; exact nI_ge (by omega) (by omega)), if_pos (xs_ix (i := i) (by omega) (by decide)), nI_clamp (by omega), hv i (by omega), nI_1]
      exact ih (i + 1) n (xs_d31 d (v i)) (by omega) (by omega)
theorem xs_rDgF (w : xs_W A 99) (hk : k + 201 < 2 ^ 31) : ∀ (m i n : Nat) (h : xw_M) (d : Int64), xs_JR A k h → i + m = A.nF → m < n → ∃ h', mX6_digest_b246 351 n h d (nI i) = some (h', xs_dF A m i d) ∧ xs_JR A k h' ∧ ∀ c, c < 352 ∨ c = 358 → h' c = h c := by
  have h8 := w.1.2.1
  intro m
  induction m with
  | zero =>
    intro i n h d j hi hn
    cases n with
    | zero => omega
    | succ n =>
      unfold mX6_digest_b246
      rw [if_pos (by rw [j.1.2.1]; exact nI_le (by omega) (by omega))]
      exact ⟨h, rfl, j, fun _ _ => rfl⟩
  | succ m ih =>
    intro i n h d j hi hn
    cases n with
    | zero => omega
    | succ n =>
      have hi2 : i < A.nF := by omega
      have gg : ∀ t, 1 ≤ t ∧ t ≤ 6 → h (351 + 5) (4 + 8 * t + i) = A.a t i := fun t ht => by
        obtain ⟨K, S, R⟩ := j
        exact R.getF ht hi2
      have g1 : h (351 + 5) (12 + i) = A.a 1 i := gg 1 (by decide)
      have g2 : h (351 + 5) (20 + i) = A.a 2 i := gg 2 (by decide)
      have g3 : h (351 + 5) (28 + i) = A.a 3 i := gg 3 (by decide)
      have g4 : h (351 + 5) (36 + i) = A.a 4 i := gg 4 (by decide)
      have g5 : h (351 + 5) (44 + i) = A.a 5 i := gg 5 (by decide)
      have e1 : ∀ (g : xw_M) (q : Nat) (v : Int32), xw_st g 360 q v (351 + 5) = g (351 + 5) := fun g q v => xw_st_ne _ _ _ _ (by decide)
      have e2 : xw_z h 360 (351 + 5) = h (351 + 5) := xs_z_ne (by decide)
      unfold mX6_digest_b246 xo_let
      rw [if_neg (by rw [j.1.2.1]; exact nI_ge hi2 (by omega)), if_pos (xs_ix (i := i) (by omega) (by decide))]
      dsimp only
      simp only [e1, e2]
      rw [xs_i 12 (by decide), if_pos (xs_ix (i := 12 + i) (by omega) (by decide)), nI_clamp (n := 12 + i) (by omega), xs_i 20 (by decide), if_pos (xs_ix (i := 20 + i) (by omega) (by decide)), nI_clamp (n := 20 + i) (by omega), xs_i 28 (by decide), if_pos (xs_ix (i := 28 + i) (by omega) (by decide)), nI_clamp (n := 28 + i) (by omega), xs_i 36 (by decide), if_pos (xs_ix (i := 36 + i) (by omega) (by decide)), nI_clamp (n := 36 + i) (by omega), xs_i 44 (by decide), if_pos (xs_ix (i := 44 + i) (by omega) (by decide)), nI_clamp (n := 44 + i) (by omega), g1, g2, g3, g4, g5]
      show ∃ h', ((mX6_inLine 351 (nI i) (xs_f5 h (A.a 1 i) (A.a 2 i) (A.a 3 i) (A.a 4 i) (A.a 5 i))).bind fun r21 => (mX6_untilDone 351 (nI i) (xw_st r21.1 360 5 r21.2)).bind fun r23 => mX6_digest_b357 (mX6_digest_b246 351 n) 351 (nI i) 360 7 xo_n (xw_st r23.1 360 6 r23.2) d (nI 0)) = some (h', xs_dF A m (i + 1) (xs_dF1 A i d)) ∧ _
      have j20 : xs_JR A k (xs_f5 h (A.a 1 i) (A.a 2 i) (A.a 3 i) (A.a 4 i) (A.a 5 i)) := j.hi w.1 (fun c hc => xs_f5_off (by omega))
      rw [xs_rInLine j20, Option.bind_some]
      dsimp only
      have j22 : xs_JR A k (xw_st (xs_f5 h (A.a 1 i) (A.a 2 i) (A.a 3 i) (A.a 4 i) (A.a 5 i)) 360 5 (xs_ff (nI i) (A.ls 0) 0)) := j20.hi w.1 (fun c hc => xw_st_ne _ _ _ _ (by omega))
      obtain ⟨h23, e23, j23, o23⟩ := xs_rUntilDone j22 w hk hi2
      rw [e23, Option.bind_some]
      dsimp only
      have j24 : xs_JR A k (xw_st h23 360 6 (xs_udv (fun P => P.a 1 i = 5) A)) := j23.hi w.1 (fun c hc => xw_st_ne _ _ _ _ (by omega))
      rw [xs_r357 (v := fun q => if q = 6 then xs_udv (fun P => P.a 1 i = 5) A else if q = 5 then xs_ff (nI i) (A.ls 0) 0 else if q = 4 then A.a 5 i else if q = 3 then A.a 4 i else if q = 2 then A.a 3 i else if q = 1 then A.a 2 i else if q = 0 then A.a 1 i else 0) (fun q hq => by
        rw [xs_stf, o23 360 (by decide) (by decide), xs_stf]
        unfold xs_f5
        rw [xs_stf, xs_stf, xs_stf, xs_stf, xs_stf]
        unfold xw_z
        rw [if_pos rfl]) 7 0 xo_n d (by omega) (by decide), nI_1]
      obtain ⟨h5, e5, j5, o5⟩ := ih (i + 1) n _ (xs_dF1 A i d) j24 (by omega) (by omega)
      refine ⟨h5, e5, j5, fun c hc => ?_⟩
      rw [o5 c hc, xw_st_ne _ _ _ _ (by omega), o23 c (by omega) (by omega), xw_st_ne _ _ _ _ (by omega), xs_f5_off (by omega)]
theorem xs_rDgD (w : xs_W A 99) (hk : k + 201 < 2 ^ 31) {c : Nat} (hc : c < A.nC) {K : xw_M → Int64 → Int32 → Option (xw_M × Int64)} : ∀ (m i n : Nat) (h : xw_M) (d : Int64), xs_JR A k h → i + m = (A.ls (1 + c)).length → m < n → ∃ h1, mX6_digest_b155 K 351 (nI c) n h d (nI i) = K h1 (xs_d31 (xs_d31 (xs_d31 (xs_dD (A.ls (1 + c)) m i d) (nI (A.ls (5 + c)).length)) (nI (A.ls (9 + c)).length)) (xs_pwv A c)) (nI (c + 1)) ∧ xs_JR A k h1 ∧ ∀ x, x < 352 ∨ x = 358 → h1 x = h x := by
  have hl := (w.full hc).2.1
  intro m
  induction m with
  | zero =>
    intro i n h d j hi hn
    cases n with
    | zero => omega
    | succ n =>
      unfold mX6_digest_b155
      rw [xs_rHeldIn j w.1.1 hc, Option.bind_some]
      dsimp only
      rw [if_pos (nI_le (by omega) (by omega)), xs_rWaiting5 j w hc, Option.bind_some]
      dsimp only
      rw [xs_rWaiting9 j w hc, Option.bind_some]
      dsimp only
      obtain ⟨h1, e1, j1, o1⟩ := xs_rRoomFor j w hk hc
      rw [e1, Option.bind_some, nI_1]
      exact ⟨h1, rfl, j1, fun x hx => o1 x (by omega) (by omega)⟩
  | succ m ih =>
    intro i n h d j hi hn
    cases n with
    | zero => omega
    | succ n =>
      have hi2 : i < (A.ls (1 + c)).length := by omega
      obtain ⟨d1, d2⟩ := xs_rDrop j w.1.1 hc hi2
      unfold mX6_digest_b155
      rw [xs_rHeldIn j w.1.1 hc, Option.bind_some]
      dsimp only
      rw [if_neg (nI_ge hi2 (by omega)), if_pos d1, d2, nI_1]
      exact ih (i + 1) n h (xs_d31 d ((A.ls (1 + c)).getD i 0)) j (by omega) (by omega)
theorem xs_rDgC (w : xs_W A 99) (hk : k + 201 < 2 ^ 31) : ∀ (m i n : Nat) (h : xw_M) (d : Int64), xs_JR A k h → i + m = A.nC → m < n → ∃ h', mX6_digest_b129 351 n h d (nI i) = some (h', xs_dF A A.nF 0 (xs_dC A m i d)) ∧ xs_JR A k h' ∧ ∀ c, c < 352 ∨ c = 358 → h' c = h c := by
  have h4 := w.1.1
  have h8 := w.1.2.1
  intro m
  induction m with
  | zero =>
    intro i n h d j hi hn
    cases n with
    | zero => omega
    | succ n =>
      unfold mX6_digest_b129
      rw [if_pos (by rw [j.1.1]; exact nI_le (by omega) (by omega))]
      exact xs_rDgF w hk A.nF 0 xo_n h d j (by omega) (by show A.nF < 300; omega)
  | succ m ih =>
    intro i n h d j hi hn
    cases n with
    | zero => omega
    | succ n =>
      have hi2 : i < A.nC := by omega
      have hl := (w.full hi2).2.1
      unfold mX6_digest_b129
      rw [if_neg (by rw [j.1.1]; exact nI_ge hi2 (by omega)), xs_rHeldIn j h4 hi2, Option.bind_some]
      dsimp only
      obtain ⟨h1, e1, j1, o1⟩ := xs_rDgD w hk hi2 (K := mX6_digest_b129 351 n) (A.ls (1 + i)).length 0 xo_n h (xs_d31 d (nI (A.ls (1 + i)).length)) j (by omega) (by show (A.ls (1 + i)).length < 300; omega)
      obtain ⟨h2, e2, j2, o2⟩ := ih (i + 1) n h1 (xs_d31 (xs_d31 (xs_d31 (xs_dD (A.ls (1 + i)) (A.ls (1 + i)).length 0 (xs_d31 d (nI (A.ls (1 + i)).length))) (nI (A.ls (5 + i)).length)) (nI (A.ls (9 + i)).length)) (xs_pwv A i)) j1 (by omega) (by omega)
      exact ⟨h2, e1.trans e2, j2, fun c hc => (o2 c hc).trans (o1 c hc)⟩
theorem xs_rDg71 (w : xs_W A 99) (hk : k + 201 < 2 ^ 31) {h10 : xw_M} (j : xs_JR A k h10) (v0 : h10 359 0 = A.a 9 0) (v1 : h10 359 1 = nI A.nC) (v2 : h10 359 2 = nI A.nF) (v3 : h10 359 3 = nI (xs_no A 5 A.nF 0)) (v4 : h10 359 4 = A.a 10 0) (v5 : h10 359 5 = xs_nx A) {s : Int32} (hs : s = xs_stv A) : ∃ h', mX6_digest_b71 351 h10 s 6 359 359 = some (h', xs_dg A) ∧ xs_JR A k h' ∧ ∀ c, c < 352 ∨ c = 358 → h' c = h10 c := by
  have h4 := w.1.1
  subst hs
  unfold mX6_digest_b71 xo_let
  rw [if_pos (by decide), show Int32.toNatClampNeg 6 = 6 from by decide, show Int32.toNatClampNeg 7 = 7 from by decide]
  have j12 : xs_JR A k (xw_st h10 359 6 (xs_stv A)) := j.hi w.1 (fun c hc => xw_st_ne _ _ _ _ (by omega))
  obtain ⟨h13, e13, j13, o13⟩ := xs_rUntilStuck j12 w hk
  dsimp only
  rw [e13, Option.bind_some]
  dsimp only
  have j14 : xs_JR A k (xw_st h13 359 7 (xs_udv xs_stk A)) := j13.hi w.1 (fun c hc => xw_st_ne _ _ _ _ (by omega))
  rw [show (0 : Int32) = nI 0 from rfl, xs_r96 (v := fun q => if q = 7 then xs_udv xs_stk A else if q = 6 then xs_stv A else if q = 5 then xs_nx A else if q = 4 then A.a 10 0 else if q = 3 then nI (xs_no A 5 A.nF 0) else if q = 2 then nI A.nF else if q = 1 then nI A.nC else A.a 9 0) (fun q hq => by
    rw [xs_stf, o13 359 (by decide) (by decide), xs_stf]
    rcases (show q = 0 ∨ q = 1 ∨ q = 2 ∨ q = 3 ∨ q = 4 ∨ q = 5 ∨ q = 6 ∨ q = 7 by omega) with rfl | rfl | rfl | rfl | rfl | rfl | rfl | rfl
    · exact v0
    · exact v1
    · exact v2
    · exact v3
    · exact v4
    · exact v5
    · rfl
    · rfl) 8 0 xo_n 2213 (by omega) (by decide)]
  obtain ⟨h5, e5, j5, o5⟩ := xs_rDgC w hk A.nC 0 xo_n (xw_st h13 359 7 (xs_udv xs_stk A)) (xs_d0 A) j14 (by omega) (by show A.nC < 300; omega)
  refine ⟨h5, e5, j5, fun c hc => ?_⟩
  rw [o5 c hc, xw_st_ne _ _ _ _ (by omega), o13 c (by omega) (by omega), xw_st_ne _ _ _ _ (by omega)]
theorem xs_rDg (j : xs_JR A k h) (w : xs_W A 99) (hk : k + 201 < 2 ^ 31) : xs_rS h (mX6_digest 351 h) (xs_dg A) 0 A k := by
  have h8 := w.1.2.1
  unfold mX6_digest xo_let
  dsimp only
  have j1 := j.t0 w.1 0
  have t1 : xw_st h 351 0 0 351 0 = 0 := xw_stE
  have c1 := xs_t0c (h := h) (t := 0)
  generalize xw_st h 351 0 0 = h1 at j1 t1 c1 ⊢
  have g9 : h1 (351 + 5) 0 = A.a 9 0 := by
    obtain ⟨K, S, R⟩ := j1
    exact R.1 9 0 (Or.inr (Or.inr (Or.inl ⟨rfl, rfl⟩)))
  have g10 : h1 (351 + 5) 1 = A.a 10 0 := by
    obtain ⟨K, S, R⟩ := j1
    exact R.1 10 0 (Or.inr (Or.inr (Or.inr (Or.inl ⟨rfl, rfl⟩))))
  have e1 : ∀ (g : xw_M) (q : Nat) (v : Int32), xw_st g 359 q v (351 + 5) = g (351 + 5) := fun g q v => xw_st_ne _ _ _ _ (by decide)
  have e2 : xw_z h1 359 (351 + 5) = h1 (351 + 5) := xs_z_ne (by decide)
  have e3 : ∀ (g : xw_M) (q : Nat) (v : Int32), xw_st g 359 q v 351 = g 351 := fun g q v => xw_st_ne _ _ _ _ (by decide)
  have e4 : xw_z h1 359 351 = h1 351 := xs_z_ne (by decide)
  simp only [e1, e2, e3, e4]
  rw [show Int32.toNatClampNeg 0 = 0 from by decide, show Int32.toNatClampNeg 1 = 1 from by decide, show Int32.toNatClampNeg 2 = 2 from by decide, show Int32.toNatClampNeg 3 = 3 from by decide, show Int32.toNatClampNeg 4 = 4 from by decide, show Int32.toNatClampNeg 5 = 5 from by decide, g9, j1.1.1, j1.1.2.1]
  have j3 : xs_JR A k (xs_z3 h1 (A.a 9 0) (nI A.nC) (nI A.nF)) := j1.hi w.1 (fun c hc => xs_z3_off (by omega))
  have z0 : xs_z3 h1 (A.a 9 0) (nI A.nC) (nI A.nF) 359 0 = A.a 9 0 := by unfold xs_z3; simp [xs_stf]
  have z1 : xs_z3 h1 (A.a 9 0) (nI A.nC) (nI A.nF) 359 1 = nI A.nC := by unfold xs_z3; simp [xs_stf]
  have z2 : xs_z3 h1 (A.a 9 0) (nI A.nC) (nI A.nF) 359 2 = nI A.nF := by unfold xs_z3; simp [xs_stf]
  have z9 : ∀ c, c ≠ 359 → xs_z3 h1 (A.a 9 0) (nI A.nC) (nI A.nF) c = h1 c := fun c hc => xs_z3_off hc
  show xs_rS h ((mX6_inState 351 5 (xs_z3 h1 (A.a 9 0) (nI A.nC) (nI A.nF))).bind _) (xs_dg A) 0 A k
  generalize xs_z3 h1 (A.a 9 0) (nI A.nC) (nI A.nF) = h3 at j3 z0 z1 z2 z9 ⊢
  rw [xs_rIn j3 h8, Option.bind_some]
  dsimp only
  have j8 : xs_JR A k (xw_st (xw_st h3 359 3 (nI (xs_no A 5 A.nF 0))) 359 4 (h3 (351 + 5) 1)) := j3.hi w.1 (fun c hc => by rw [xw_st_ne _ _ _ _ (by omega), xw_st_ne _ _ _ _ (by omega)])
  rw [xs_rFirst j8, Option.bind_some]
  dsimp only
  have g10' : h3 (351 + 5) 1 = A.a 10 0 := by rw [z9 (351 + 5) (by decide)]; exact g10
  have j10 : xs_JR A k (xw_st (xw_st (xw_st h3 359 3 (nI (xs_no A 5 A.nF 0))) 359 4 (h3 (351 + 5) 1)) 359 5 (xs_nx A)) := j8.hi w.1 (fun c hc => by rw [xw_st_ne _ _ _ _ (by omega)])
  have o10 : ∀ c, c ≠ 359 → xw_st (xw_st (xw_st h3 359 3 (nI (xs_no A 5 A.nF 0))) 359 4 (h3 (351 + 5) 1)) 359 5 (xs_nx A) c = h1 c := fun c hc => by rw [xw_st_ne _ _ _ _ hc, xw_st_ne _ _ _ _ hc, xw_st_ne _ _ _ _ hc, z9 c hc]
  rw [xs_rStk j10 w, Option.bind_some]
  dsimp only
  have key : ∀ s : Int32, s = xs_stv A → xs_rS h (mX6_digest_b71 351 (xw_st (xw_st (xw_st h3 359 3 (nI (xs_no A 5 A.nF 0))) 359 4 (h3 (351 + 5) 1)) 359 5 (xs_nx A)) s 6 359 359) (xs_dg A) 0 A k := by
    intro s hs
    obtain ⟨h5, e5, j5, o5⟩ := xs_rDg71 w hk j10 (by simp [xs_stf, z0]) (by simp [xs_stf, z1]) (by simp [xs_stf, z2]) (by simp [xs_stf]) (by simp [xs_stf]; exact g10') (by simp [xs_stf]) hs
    refine ⟨h5, e5, j5, ?_, fun c hc => ?_⟩
    · rw [o5 351 (by omega), o10 351 (by decide)]; exact t1
    · rw [o5 c (by omega), o10 c (by omega)]; exact c1 c hc
  rcases xs_stv_01 (A := A) with e | e
  · rw [if_pos e]
    exact key 0 e.symm
  · rw [if_neg (by rw [e]; decide)]
    exact key 1 e.symm
theorem xs_l27 (j : xs_J A k h) (hk : k + 261 < 2 ^ 31) {xs : Nat → Int32} {L : Nat} {a4 : Int32} : xs_Go (lwc_27 xs L a4 h) k := by
  obtain ⟨jc, jr, w, fa⟩ := j
  unfold lwc_27
  obtain ⟨h1, e1, j1, o1⟩ := xs_cDg jc w fa
  rw [e1, Option.bind_some]
  obtain ⟨h2, e2, j2, t2, o2⟩ := xs_rDg (jr.up w.1 (fun c c1 _ => o1 c c1)) w (by omega)
  show xs_Go (if (0 : Nat) = 0 then (mX6_digest 351 h1).bind fun r2 => (if (lg_cmp (xs_dg A) r2.2) = 0 then some r2.1 else none) else none) k
  rw [if_pos rfl, e2, Option.bind_some]
  exact ⟨h2, A, k, if_pos xs_lgc, ⟨j1.off w.1 (fun c hc => o2 c (Or.inl hc)), j2, w, fa⟩, by omega⟩
end DH
