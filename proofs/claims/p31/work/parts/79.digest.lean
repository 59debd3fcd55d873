/-! the checksum -/
def xs_d31 (d : Int64) (x : Int32) : Int64 := d * 31 + x.toInt64
def xs_dD (l : List Int32) : Nat → Nat → Int64 → Int64
  | 0, _, d => d
  | m + 1, i, d => xs_dD l m (i + 1) (xs_d31 d (l.getD i 0))
noncomputable def xs_dC (A : xs_A) : Nat → Nat → Int64 → Int64
  | 0, _, d => d
  | m + 1, i, d => xs_dC A m (i + 1) (xs_d31 (xs_d31 (xs_d31 (xs_dD (A.ls (1 + i)) (A.ls (1 + i)).length 0 (xs_d31 d (nI (A.ls (1 + i)).length))) (nI (A.ls (5 + i)).length)) (nI (A.ls (9 + i)).length)) (xs_pwv A i))
noncomputable def xs_dF1 (A : xs_A) (i : Nat) (d : Int64) : Int64 := xs_d31 (xs_d31 (xs_d31 (xs_d31 (xs_d31 (xs_d31 (xs_d31 d (A.a 1 i)) (A.a 2 i)) (A.a 3 i)) (A.a 4 i)) (A.a 5 i)) (xs_ff (nI i) (A.ls 0) 0)) (xs_udv (fun P => P.a 1 i = 5) A)
noncomputable def xs_dF (A : xs_A) : Nat → Nat → Int64 → Int64
  | 0, _, d => d
  | m + 1, i, d => xs_dF A m (i + 1) (xs_dF1 A i d)
noncomputable def xs_d0 (A : xs_A) : Int64 := xs_d31 (xs_d31 (xs_d31 (xs_d31 (xs_d31 (xs_d31 (xs_d31 (xs_d31 2213 (A.a 9 0)) (nI A.nC)) (nI A.nF)) (nI (xs_no A 5 A.nF 0))) (A.a 10 0)) (xs_nx A)) (xs_stv A)) (xs_udv xs_stk A)
noncomputable def xs_dg (A : xs_A) : Int64 := xs_dF A A.nF 0 (xs_dC A A.nC 0 (xs_d0 A))
section DG
variable {A : xs_A} {k : Nat}
theorem xs_cDgF (w : xs_W A 99) (fa : xs_fresh A) : ∀ (m i n : Nat) (h : xw_M) (d : Int64), xs_JC A h → i + m = A.nF → m < n → xs_cS h (mX5_digest_b229 350 (nI A.nF) n h d (nI i)) (xs_dF A m i d, 0) A := by
  have h8 := w.1.2.1
  intro m
  induction m with
  | zero =>
    intro i n h d j hi hn
    cases n with
    | zero => omega
    | succ n =>
      unfold mX5_digest_b229
      exact ⟨h, if_pos (show nI A.nF ≤ nI i from nI_le (by omega) (by omega)), j, fun _ _ => rfl⟩
  | succ m ih =>
    intro i n h d j hi hn
    cases n with
    | zero => omega
    | succ n =>
      have hi2 : i < A.nF := by omega
      unfold mX5_digest_b229
      rw [if_neg (nI_ge hi2 (by omega)), xs_c_stateOf j hi2, Option.bind_some, xs_th0]
      dsimp only
      rw [xs_c_placeOf j hi2, Option.bind_some, xs_th0]
      dsimp only
      rw [xs_c_sumOf j hi2, Option.bind_some, xs_th0]
      dsimp only
      rw [xs_c_stepsDone j hi2, Option.bind_some, xs_th0]
      dsimp only
      rw [xs_c_turnsOf j hi2, Option.bind_some, xs_th0]
      dsimp only
      rw [xs_c_placeInLine j hi2, Option.bind_some, xs_th0]
      dsimp only
      obtain ⟨h1, e1, j1, o1⟩ := xs_c_turnsUntilDone j w fa hi2
      rw [e1, Option.bind_some, xs_th0, nI_1]
      dsimp only
      obtain ⟨h2, e2, j2, o2⟩ := ih (i + 1) n h1 (xs_dF1 A i d) j1 (by omega) (by omega)
      exact ⟨h2, e2, j2, fun c hc => (o2 c hc).trans (o1 c hc)⟩
/-- the drops of a channel, then the rest of it -/
theorem xs_cDgD (w : xs_W A 99) (fa : xs_fresh A) {c : Nat} (hc : c < A.nC) {K : xw_M → Int64 → Int32 → Option (xw_M × Int64 × Nat)} : ∀ (m i n : Nat) (h : xw_M) (d : Int64), xs_JC A h → i + m = (A.ls (1 + c)).length → m < n → ∃ h1, mX5_digest_b143 K 350 (nI A.nC) (nI c) (nI (A.ls (1 + c)).length) n h d (nI i) = K h1 (xs_d31 (xs_d31 (xs_d31 (xs_dD (A.ls (1 + c)) m i d) (nI (A.ls (5 + c)).length)) (nI (A.ls (9 + c)).length)) (xs_pwv A c)) (nI (c + 1)) ∧ xs_JC A h1 ∧ ∀ x, 350 ≤ x → h1 x = h x := by
  have hl := (w.full hc).2.1
  intro m
  induction m with
  | zero =>
    intro i n h d j hi hn
    cases n with
    | zero => omega
    | succ n =>
      unfold mX5_digest_b143
      rw [if_pos (nI_le (by omega) (by omega)), xs_c_sendersAt j hc, Option.bind_some, xs_th0]
      dsimp only
      rw [xs_c_takersAt j hc, Option.bind_some, xs_th0]
      dsimp only
      obtain ⟨h1, e1, j1, o1⟩ := xs_c_placesWanted j w fa hc
      rw [e1, Option.bind_some, xs_th0, nI_1]
      exact ⟨h1, rfl, j1, o1⟩
  | succ m ih =>
    intro i n h d j hi hn
    cases n with
    | zero => omega
    | succ n =>
      have hi2 : i < (A.ls (1 + c)).length := by omega
      unfold mX5_digest_b143
      rw [if_neg (nI_ge hi2 (by omega)), xs_c_valueAt j hc hi2, Option.bind_some, xs_th0, nI_1]
      dsimp only
      exact ih (i + 1) n h (xs_d31 d ((A.ls (1 + c)).getD i 0)) j (by omega) (by omega)
theorem xs_cDgC (w : xs_W A 99) (fa : xs_fresh A) : ∀ (m i n : Nat) (h : xw_M) (d : Int64), xs_JC A h → i + m = A.nC → m < n → xs_cS h (mX5_digest_b116 350 (nI A.nC) n h d (nI i)) (xs_dF A A.nF 0 (xs_dC A m i d), 0) A := by
  have h4 := w.1.1
  have h8 := w.1.2.1
  intro m
  induction m with
  | zero =>
    intro i n h d j hi hn
    cases n with
    | zero => omega
    | succ n =>
      unfold mX5_digest_b116
      rw [if_pos (nI_le (by omega) (by omega)), xs_cFibers j, Option.bind_some]
      exact xs_cDgF w fa A.nF 0 xo_n h d j (by omega) (by show A.nF < 300; omega)
  | succ m ih =>
    intro i n h d j hi hn
    cases n with
    | zero => omega
    | succ n =>
      have hi2 : i < A.nC := by omega
      have hl := (w.full hi2).2.1
      unfold mX5_digest_b116
      rw [if_neg (nI_ge hi2 (by omega)), xs_c_held j hi2, Option.bind_some, xs_th0]
      dsimp only
      obtain ⟨h1, e1, j1, o1⟩ := xs_cDgD w fa hi2 (K := mX5_digest_b116 350 (nI A.nC) n) (A.ls (1 + i)).length 0 xo_n h (xs_d31 d (nI (A.ls (1 + i)).length)) j (by omega) (by show (A.ls (1 + i)).length < 300; omega)
      obtain ⟨h2, e2, j2, o2⟩ := ih (i + 1) n h1 (xs_d31 (xs_d31 (xs_d31 (xs_dD (A.ls (1 + i)) (A.ls (1 + i)).length 0 (xs_d31 d (nI (A.ls (1 + i)).length))) (nI (A.ls (5 + i)).length)) (nI (A.ls (9 + i)).length)) (xs_pwv A i)) j1 (by omega) (by omega)
      exact ⟨h2, e1.trans e2, j2, fun c hc => (o2 c hc).trans (o1 c hc)⟩
theorem xs_cDg {h : xw_M} (j : xs_JC A h) (w : xs_W A 99) (fa : xs_fresh A) : xs_cS h (mX5_digest 350 h) (xs_dg A, 0) A := by
  have h4 := w.1.1
  unfold mX5_digest
  rw [xs_cTime j, Option.bind_some]
  dsimp only
  rw [xs_cChannels j, Option.bind_some]
  dsimp only
  rw [xs_cFibers j, Option.bind_some]
  dsimp only
  rw [xs_cDone j, Option.bind_some]
  dsimp only
  rw [xs_cIdle j, Option.bind_some]
  dsimp only
  rw [xs_cNext j, Option.bind_some]
  dsimp only
  rw [xs_cIsStuck j, Option.bind_some]
  dsimp only
  have key : ∀ s : Int32, s = xs_stv A → xs_cS h (mX5_digest_b93 350 h s (xs_d31 (xs_d31 (xs_d31 (xs_d31 (xs_d31 (xs_d31 2213 (A.a 9 0)) (nI A.nC)) (nI A.nF)) (nI (xs_no A 5 A.nF 0))) (A.a 10 0)) (xs_nx A) * 31)) (xs_dg A, 0) A := by
    intro s hs
    subst hs
    unfold mX5_digest_b93
    obtain ⟨h1, e1, j1, o1⟩ := xs_cUntilStuck j w fa
    rw [e1, Option.bind_some]
    dsimp only
    rw [xs_cChannels j1, Option.bind_some]
    obtain ⟨h2, e2, j2, o2⟩ := xs_cDgC w fa A.nC 0 xo_n h1 (xs_d0 A) j1 (by omega) (by show A.nC < 300; omega)
    exact ⟨h2, e2, j2, fun c hc => (o2 c hc).trans (o1 c hc)⟩
  rcases xs_stv_01 (A := A) with e | e
  · rw [if_pos e]
    exact key 0 e.symm
  · rw [if_neg (by rw [e]; decide)]
    exact key 1 e.symm
end DG
