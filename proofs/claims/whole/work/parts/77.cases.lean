/-! the law's cases: what the class answers the reference answers -/
def xs_Go (o : Option xw_M) (k : Nat) : Prop := ∃ h' A' k', o = some h' ∧ xs_J A' k' h' ∧ k' ≤ k + 60
section CA
variable {h : xw_M} {A A' : xs_A} {k k' : Nat}
theorem xs_cS.of {β : Type} {o : Option (xw_M × β)} {r : β} (e : o = some (h, r)) (j : xs_JC A h) : xs_cS h o r A := ⟨h, e, j, fun _ _ => rfl⟩
theorem xs_JR.up {h' : xw_M} (j : xs_JR A k h) (hs : A.sz) (o : ∀ c, 350 ≤ c → c ≠ 358 → h' c = h c) : xs_JR A k h' :=
  j.off hs (fun i _ => by rw [o 356 (by decide) (by decide)]) (fun c c1 c2 => o c (by omega) (by omega)) (by rw [o 351 (by decide) (by decide)]) (by rw [o 351 (by decide) (by decide)])
theorem xs_lgc {x : Int64} : lg_cmp x x = 0 := by
  unfold lg_cmp
  rw [if_neg (by rw [gt_iff_lt, Int64.lt_iff_toInt_lt]; omega), if_pos rfl]
theorem xs_g1 {β : Type} [DecidableEq β] {oC : Option (xw_M × β)} {R : xw_M → Option (xw_M × β)} {v : β} (jr : xs_JR A k h) (w : xs_W A 99) (fa : xs_fresh A) (hC : xs_cS h oC v A) (hR : ∀ h1, xs_JR A k h1 → xs_rS h1 (R h1) v 0 A k) : xs_Go (oC.bind fun r1 => (R r1.1).bind fun r2 => if r1.2 = r2.2 then some r2.1 else none) k := by
  obtain ⟨h1, e1, j1, o1⟩ := hC
  obtain ⟨h2, e2, j2, t2, o2⟩ := hR h1 (jr.up w.1 (fun c c1 _ => o1 c c1))
  rw [e1, Option.bind_some]
  show xs_Go ((R h1).bind fun r2 => if v = r2.2 then some r2.1 else none) k
  rw [e2, Option.bind_some]
  exact ⟨h2, A, k, if_pos rfl, ⟨j1.off w.1 (fun c hc => o2 c (Or.inl hc)), j2, w, fa⟩, by omega⟩
/-- behind the law's own wrapper of a call: no throw, or a throw -/
def xs_hL (oL : Option (xw_M × Int32)) (v t : Int32) (A' A : xs_A) (k : Nat) : Prop := ∃ h1, oL = some (h1, t) ∧ xs_JC A' h1 ∧ (t = 0 → h1 358 0 = v) ∧ xs_JR A k h1
theorem xs_L0 {oC : Option (xw_M × Int32 × Nat)} {v : Int32} {F : xw_M × Int32 × Nat → Option (xw_M × Int32)} (hC : xs_cS h oC (v, 0) A') (hs' : A'.sz) (hs : A.sz) (jr : xs_JR A k h) : xs_hL (oC.bind fun r => if r.2.2 = 0 then xo_let (xw_st r.1 358 0 r.2.1) (fun h1 => some (h1, (0 : Int32))) else F r) v 0 A' A k := by
  obtain ⟨h1, e1, j1, o1⟩ := hC
  rw [e1, Option.bind_some]
  refine ⟨xw_st h1 358 0 v, if_pos rfl, j1.off hs' (fun c hc => xw_st_ne _ _ _ _ (by omega)), fun _ => xw_stE, jr.up hs (fun c c1 c2 => ?_)⟩
  rw [xw_st_ne _ _ _ _ c2]
  exact o1 c c1
theorem xs_L1 {oC : Option (xw_M × Int32 × Nat)} {d t : Int32} {c : Nat} {F : xw_M × Int32 × Nat → Option (xw_M × Int32)} (e : oC = some (h, d, c)) (hc : c ≠ 0) (ht : t ≠ 0) (hF : F (h, d, c) = some (h, t)) (jc : xs_JC A h) (jr : xs_JR A k h) : xs_hL (oC.bind fun r => if r.2.2 = 0 then xo_let (xw_st r.1 358 0 r.2.1) (fun h1 => some (h1, (0 : Int32))) else F r) 0 t A A k := by
  rw [e, Option.bind_some]
  exact ⟨h, (if_neg hc).trans hF, jc, fun z => absurd z ht, jr⟩
theorem xs_g2 {oL : Option (xw_M × Int32)} {R : xw_M → Option (xw_M × Int32)} {v t : Int32} (w' : xs_W A' 99) (fa' : xs_fresh A') (hL : xs_hL oL v t A' A k) (hR : ∀ h1, xs_JR A k h1 → ∃ k', k' ≤ k + 60 ∧ xs_rS h1 (R h1) v t A' k') : xs_Go (oL.bind fun r1 => (R r1.1).bind fun r2 => (mX6_thrown 351 r2.1).bind fun r3 => (if r3.2 = r1.2 then (if r1.2 = 0 then (if (lg_cmp (Int32.toInt64 (r3.1 358 0)) (Int32.toInt64 r2.2)) = 0 then some r3.1 else none) else some r3.1) else none)) k := by
  obtain ⟨h1, e1, j1, v1, jr1⟩ := hL
  obtain ⟨k', hk', h2, e2, j2, t2, o2⟩ := hR h1 jr1
  rw [e1, Option.bind_some]
  show xs_Go ((R h1).bind fun r2 => (mX6_thrown 351 r2.1).bind fun r3 => (if r3.2 = t then (if t = 0 then (if (lg_cmp (Int32.toInt64 (r3.1 358 0)) (Int32.toInt64 r2.2)) = 0 then some r3.1 else none) else some r3.1) else none)) k
  rw [e2, Option.bind_some]
  unfold mX6_thrown
  rw [Option.bind_some]
  have fin : xs_J A' k' h2 := ⟨j1.off w'.1 (fun c hc => o2 c (Or.inl hc)), j2, w', fa'⟩
  show xs_Go (if h2 351 0 = t then (if t = 0 then (if (lg_cmp (Int32.toInt64 (h2 358 0)) (Int32.toInt64 v)) = 0 then some h2 else none) else some h2) else none) k
  rw [if_pos t2]
  by_cases e : t = 0
  · rw [if_pos e, show h2 358 0 = v from (congrFun (o2 358 (Or.inr rfl)) 0).trans (v1 e), if_pos xs_lgc]
    exact ⟨h2, A', k', rfl, fin, hk'⟩
  · rw [if_neg e]
    exact ⟨h2, A', k', rfl, fin, hk'⟩
/-- a call that keeps the count of waits -/
theorem xs_g3 {oL : Option (xw_M × Int32)} {R : xw_M → Option (xw_M × Int32)} {v t : Int32} (w' : xs_W A' 99) (fa' : xs_fresh A') (hL : xs_hL oL v t A' A k) (hR : ∀ h1, xs_JR A k h1 → xs_rS h1 (R h1) v t A' k) : xs_Go (oL.bind fun r1 => (R r1.1).bind fun r2 => (mX6_thrown 351 r2.1).bind fun r3 => (if r3.2 = r1.2 then (if r1.2 = 0 then (if (lg_cmp (Int32.toInt64 (r3.1 358 0)) (Int32.toInt64 r2.2)) = 0 then some r3.1 else none) else some r3.1) else none)) k :=
  xs_g2 w' fa' hL (fun h1 j1 => ⟨k, by omega, hR h1 j1⟩)
end CA
section CB
variable {h : xw_M} {A : xs_A} {k : Nat} {xs : Nat → Int32} {L : Nat} {a4 : Int32}
theorem xs_l5 (j : xs_J A k h) (hk : k + 261 < 2 ^ 31) : xs_Go (lwc_5 xs L a4 h) k := by
  obtain ⟨jc, jr, w, fa⟩ := j
  unfold lwc_5
  exact xs_g1 jr w fa (xs_cS.of (xs_cTime jc) jc) (fun h1 j1 => xs_rTime j1 w.1)
theorem xs_l6 (j : xs_J A k h) (hk : k + 261 < 2 ^ 31) : xs_Go (lwc_6 xs L a4 h) k := by
  obtain ⟨jc, jr, w, fa⟩ := j
  unfold lwc_6
  exact xs_g1 jr w fa (xs_cS.of (xs_cChannels jc) jc) (fun h1 j1 => xs_rChannels j1 w.1)
theorem xs_l7 (j : xs_J A k h) (hk : k + 261 < 2 ^ 31) : xs_Go (lwc_7 xs L a4 h) k := by
  obtain ⟨jc, jr, w, fa⟩ := j
  unfold lwc_7
  exact xs_g1 jr w fa (xs_cS.of (xs_cFibers jc) jc) (fun h1 j1 => xs_rFibers j1 w.1)
theorem xs_l8 (j : xs_J A k h) (hk : k + 261 < 2 ^ 31) : xs_Go (lwc_8 xs L a4 h) k := by
  obtain ⟨jc, jr, w, fa⟩ := j
  unfold lwc_8
  exact xs_g1 jr w fa (xs_cS.of (xs_cDone jc) jc) (fun h1 j1 => xs_rDoneQ j1 w.1)
theorem xs_l9 (j : xs_J A k h) (hk : k + 261 < 2 ^ 31) : xs_Go (lwc_9 xs L a4 h) k := by
  obtain ⟨jc, jr, w, fa⟩ := j
  unfold lwc_9
  exact xs_g1 jr w fa (xs_cS.of (xs_cIdle jc) jc) (fun h1 j1 => xs_rIdle j1 w.1)
theorem xs_l10 (j : xs_J A k h) (hk : k + 261 < 2 ^ 31) : xs_Go (lwc_10 xs L a4 h) k := by
  obtain ⟨jc, jr, w, fa⟩ := j
  unfold lwc_10
  exact xs_g1 jr w fa (xs_cS.of (xs_cNext jc) jc) (fun h1 j1 => xs_rNext j1 w.1)
theorem xs_l11 (j : xs_J A k h) (hk : k + 261 < 2 ^ 31) : xs_Go (lwc_11 xs L a4 h) k := by
  obtain ⟨jc, jr, w, fa⟩ := j
  unfold lwc_11
  exact xs_g1 jr w fa (xs_cS.of (xs_cIsStuck jc) jc) (fun h1 j1 => xs_rIsStuck j1 w)
theorem xs_l23 (j : xs_J A k h) (hk : k + 261 < 2 ^ 31) : xs_Go (lwc_23 xs L a4 h) k := by
  obtain ⟨jc, jr, w, fa⟩ := j
  unfold lwc_23
  exact xs_g1 jr w fa (xs_cUntilStuck jc w fa) (fun h1 j1 => xs_rUntilStuckQ j1 w (by omega))
theorem xs_l26 (j : xs_J A k h) (hk : k + 261 < 2 ^ 31) : xs_Go (lwc_26 xs L a4 h) k := by
  obtain ⟨jc, jr, w, fa⟩ := j
  unfold lwc_26
  exact xs_g1 jr w fa (xs_cS.of (xs_cMean jc) jc) (fun h1 j1 => xs_rMean j1 w.1)
theorem xs_l12 (j : xs_J A k h) (hk : k + 261 < 2 ^ 31) (i1 : xo_ix (a4 + (1 : Int32)) L = true) : xs_Go (lwc_12 xs L a4 h) k := by
  obtain ⟨jc, jr, w, fa⟩ := j
  unfold lwc_12
  simp only [i1, ↓reduceIte]
  generalize xs (Int32.toNatClampNeg (a4 + (1 : Int32))) = x1
  unfold mL_held
  by_cases e : ∃ c, c < A.nC ∧ x1 = nI c
  · obtain ⟨c, hc, rfl⟩ := e
    exact xs_g3 w fa (xs_L0 (xs_cS.of (xs_c_held jc hc) jc) w.1 w.1 jr) (fun h1 j1 => xs_r_held j1 w.1 hc)
  · have e9 : ∀ c, c < A.nC → x1 ≠ nI c := fun c hc z => e ⟨c, hc, z⟩
    exact xs_g3 w fa (xs_L1 (xs_c0_held jc e9) (by decide) (by decide) rfl jc jr) (fun h1 j1 => xs_r0_held j1 w.1 e9)
theorem xs_l14 (j : xs_J A k h) (hk : k + 261 < 2 ^ 31) (i1 : xo_ix (a4 + (1 : Int32)) L = true) : xs_Go (lwc_14 xs L a4 h) k := by
  obtain ⟨jc, jr, w, fa⟩ := j
  unfold lwc_14
  simp only [i1, ↓reduceIte]
  generalize xs (Int32.toNatClampNeg (a4 + (1 : Int32))) = x1
  unfold mL_sendersAt
  by_cases e : ∃ c, c < A.nC ∧ x1 = nI c
  · obtain ⟨c, hc, rfl⟩ := e
    exact xs_g3 w fa (xs_L0 (xs_cS.of (xs_c_sendersAt jc hc) jc) w.1 w.1 jr) (fun h1 j1 => xs_r_sendersAt j1 w hc)
  · have e9 : ∀ c, c < A.nC → x1 ≠ nI c := fun c hc z => e ⟨c, hc, z⟩
    exact xs_g3 w fa (xs_L1 (xs_c0_sendersAt jc e9) (by decide) (by decide) rfl jc jr) (fun h1 j1 => xs_r0_sendersAt j1 w.1 e9)
theorem xs_l15 (j : xs_J A k h) (hk : k + 261 < 2 ^ 31) (i1 : xo_ix (a4 + (1 : Int32)) L = true) : xs_Go (lwc_15 xs L a4 h) k := by
  obtain ⟨jc, jr, w, fa⟩ := j
  unfold lwc_15
  simp only [i1, ↓reduceIte]
  generalize xs (Int32.toNatClampNeg (a4 + (1 : Int32))) = x1
  unfold mL_takersAt
  by_cases e : ∃ c, c < A.nC ∧ x1 = nI c
  · obtain ⟨c, hc, rfl⟩ := e
    exact xs_g3 w fa (xs_L0 (xs_cS.of (xs_c_takersAt jc hc) jc) w.1 w.1 jr) (fun h1 j1 => xs_r_takersAt j1 w hc)
  · have e9 : ∀ c, c < A.nC → x1 ≠ nI c := fun c hc z => e ⟨c, hc, z⟩
    exact xs_g3 w fa (xs_L1 (xs_c0_takersAt jc e9) (by decide) (by decide) rfl jc jr) (fun h1 j1 => xs_r0_takersAt j1 w.1 e9)
theorem xs_l16 (j : xs_J A k h) (hk : k + 261 < 2 ^ 31) (i1 : xo_ix (a4 + (1 : Int32)) L = true) : xs_Go (lwc_16 xs L a4 h) k := by
  obtain ⟨jc, jr, w, fa⟩ := j
  unfold lwc_16
  simp only [i1, ↓reduceIte]
  generalize xs (Int32.toNatClampNeg (a4 + (1 : Int32))) = x1
  unfold mL_stateOf
  by_cases e : ∃ f, f < A.nF ∧ x1 = nI f
  · obtain ⟨f, hf, rfl⟩ := e
    exact xs_g3 w fa (xs_L0 (xs_cS.of (xs_c_stateOf jc hf) jc) w.1 w.1 jr) (fun h1 j1 => xs_r_stateOf j1 w.1 hf)
  · have e9 : ∀ f, f < A.nF → x1 ≠ nI f := fun f hf z => e ⟨f, hf, z⟩
    exact xs_g3 w fa (xs_L1 (xs_c0_stateOf jc e9) (by decide) (by decide) rfl jc jr) (fun h1 j1 => xs_r0_stateOf j1 w.1 e9)
theorem xs_l17 (j : xs_J A k h) (hk : k + 261 < 2 ^ 31) (i1 : xo_ix (a4 + (1 : Int32)) L = true) : xs_Go (lwc_17 xs L a4 h) k := by
  obtain ⟨jc, jr, w, fa⟩ := j
  unfold lwc_17
  simp only [i1, ↓reduceIte]
  generalize xs (Int32.toNatClampNeg (a4 + (1 : Int32))) = x1
  unfold mL_placeOf
  by_cases e : ∃ f, f < A.nF ∧ x1 = nI f
  · obtain ⟨f, hf, rfl⟩ := e
    exact xs_g3 w fa (xs_L0 (xs_cS.of (xs_c_placeOf jc hf) jc) w.1 w.1 jr) (fun h1 j1 => xs_r_placeOf j1 w.1 hf)
  · have e9 : ∀ f, f < A.nF → x1 ≠ nI f := fun f hf z => e ⟨f, hf, z⟩
    exact xs_g3 w fa (xs_L1 (xs_c0_placeOf jc e9) (by decide) (by decide) rfl jc jr) (fun h1 j1 => xs_r0_placeOf j1 w.1 e9)
theorem xs_l18 (j : xs_J A k h) (hk : k + 261 < 2 ^ 31) (i1 : xo_ix (a4 + (1 : Int32)) L = true) : xs_Go (lwc_18 xs L a4 h) k := by
  obtain ⟨jc, jr, w, fa⟩ := j
  unfold lwc_18
  simp only [i1, ↓reduceIte]
  generalize xs (Int32.toNatClampNeg (a4 + (1 : Int32))) = x1
  unfold mL_sumOf
  by_cases e : ∃ f, f < A.nF ∧ x1 = nI f
  · obtain ⟨f, hf, rfl⟩ := e
    exact xs_g3 w fa (xs_L0 (xs_cS.of (xs_c_sumOf jc hf) jc) w.1 w.1 jr) (fun h1 j1 => xs_r_sumOf j1 w.1 hf)
  · have e9 : ∀ f, f < A.nF → x1 ≠ nI f := fun f hf z => e ⟨f, hf, z⟩
    exact xs_g3 w fa (xs_L1 (xs_c0_sumOf jc e9) (by decide) (by decide) rfl jc jr) (fun h1 j1 => xs_r0_sumOf j1 w.1 e9)
theorem xs_l19 (j : xs_J A k h) (hk : k + 261 < 2 ^ 31) (i1 : xo_ix (a4 + (1 : Int32)) L = true) : xs_Go (lwc_19 xs L a4 h) k := by
  obtain ⟨jc, jr, w, fa⟩ := j
  unfold lwc_19
  simp only [i1, ↓reduceIte]
  generalize xs (Int32.toNatClampNeg (a4 + (1 : Int32))) = x1
  unfold mL_stepsDone
  by_cases e : ∃ f, f < A.nF ∧ x1 = nI f
  · obtain ⟨f, hf, rfl⟩ := e
    exact xs_g3 w fa (xs_L0 (xs_cS.of (xs_c_stepsDone jc hf) jc) w.1 w.1 jr) (fun h1 j1 => xs_r_stepsDone j1 w.1 hf)
  · have e9 : ∀ f, f < A.nF → x1 ≠ nI f := fun f hf z => e ⟨f, hf, z⟩
    exact xs_g3 w fa (xs_L1 (xs_c0_stepsDone jc e9) (by decide) (by decide) rfl jc jr) (fun h1 j1 => xs_r0_stepsDone j1 w.1 e9)
theorem xs_l20 (j : xs_J A k h) (hk : k + 261 < 2 ^ 31) (i1 : xo_ix (a4 + (1 : Int32)) L = true) : xs_Go (lwc_20 xs L a4 h) k := by
  obtain ⟨jc, jr, w, fa⟩ := j
  unfold lwc_20
  simp only [i1, ↓reduceIte]
  generalize xs (Int32.toNatClampNeg (a4 + (1 : Int32))) = x1
  unfold mL_turnsOf
  by_cases e : ∃ f, f < A.nF ∧ x1 = nI f
  · obtain ⟨f, hf, rfl⟩ := e
    exact xs_g3 w fa (xs_L0 (xs_cS.of (xs_c_turnsOf jc hf) jc) w.1 w.1 jr) (fun h1 j1 => xs_r_turnsOf j1 w.1 hf)
  · have e9 : ∀ f, f < A.nF → x1 ≠ nI f := fun f hf z => e ⟨f, hf, z⟩
    exact xs_g3 w fa (xs_L1 (xs_c0_turnsOf jc e9) (by decide) (by decide) rfl jc jr) (fun h1 j1 => xs_r0_turnsOf j1 w.1 e9)
theorem xs_l21 (j : xs_J A k h) (hk : k + 261 < 2 ^ 31) (i1 : xo_ix (a4 + (1 : Int32)) L = true) : xs_Go (lwc_21 xs L a4 h) k := by
  obtain ⟨jc, jr, w, fa⟩ := j
  unfold lwc_21
  simp only [i1, ↓reduceIte]
  generalize xs (Int32.toNatClampNeg (a4 + (1 : Int32))) = x1
  unfold mL_placeInLine
  by_cases e : ∃ f, f < A.nF ∧ x1 = nI f
  · obtain ⟨f, hf, rfl⟩ := e
    exact xs_g3 w fa (xs_L0 (xs_cS.of (xs_c_placeInLine jc hf) jc) w.1 w.1 jr) (fun h1 j1 => xs_r_placeInLine j1 w.1 hf)
  · have e9 : ∀ f, f < A.nF → x1 ≠ nI f := fun f hf z => e ⟨f, hf, z⟩
    exact xs_g3 w fa (xs_L1 (xs_c0_placeInLine jc e9) (by decide) (by decide) rfl jc jr) (fun h1 j1 => xs_r0_placeInLine j1 w.1 e9)
theorem xs_l22 (j : xs_J A k h) (hk : k + 261 < 2 ^ 31) (i1 : xo_ix (a4 + (1 : Int32)) L = true) : xs_Go (lwc_22 xs L a4 h) k := by
  obtain ⟨jc, jr, w, fa⟩ := j
  unfold lwc_22
  simp only [i1, ↓reduceIte]
  generalize xs (Int32.toNatClampNeg (a4 + (1 : Int32))) = x1
  unfold mL_turnsUntilDone
  by_cases e : ∃ f, f < A.nF ∧ x1 = nI f
  · obtain ⟨f, hf, rfl⟩ := e
    exact xs_g3 w fa (xs_L0 (xs_c_turnsUntilDone jc w fa hf) w.1 w.1 jr) (fun h1 j1 => xs_r_turnsUntilDone j1 w (by omega) hf)
  · have e9 : ∀ f, f < A.nF → x1 ≠ nI f := fun f hf z => e ⟨f, hf, z⟩
    exact xs_g3 w fa (xs_L1 (xs_c0_turnsUntilDone jc e9) (by decide) (by decide) rfl jc jr) (fun h1 j1 => xs_r0_turnsUntilDone j1 w.1 e9)
theorem xs_l25 (j : xs_J A k h) (hk : k + 261 < 2 ^ 31) (i1 : xo_ix (a4 + (1 : Int32)) L = true) : xs_Go (lwc_25 xs L a4 h) k := by
  obtain ⟨jc, jr, w, fa⟩ := j
  unfold lwc_25
  simp only [i1, ↓reduceIte]
  generalize xs (Int32.toNatClampNeg (a4 + (1 : Int32))) = x1
  unfold mL_placesWanted
  by_cases e : ∃ c, c < A.nC ∧ x1 = nI c
  · obtain ⟨c, hc, rfl⟩ := e
    exact xs_g3 w fa (xs_L0 (xs_c_placesWanted jc w fa hc) w.1 w.1 jr) (fun h1 j1 => xs_r_placesWanted j1 w (by omega) hc)
  · have e9 : ∀ c, c < A.nC → x1 ≠ nI c := fun c hc z => e ⟨c, hc, z⟩
    exact xs_g3 w fa (xs_L1 (xs_c0_placesWanted jc e9) (by decide) (by decide) rfl jc jr) (fun h1 j1 => xs_r0_placesWanted j1 w.1 e9)
theorem xs_l13 (j : xs_J A k h) (hk : k + 261 < 2 ^ 31) (i1 : xo_ix (a4 + (1 : Int32)) L = true) (i2 : xo_ix (a4 + (2 : Int32)) L = true) : xs_Go (lwc_13 xs L a4 h) k := by
  obtain ⟨jc, jr, w, fa⟩ := j
  unfold lwc_13
  simp only [i1, i2, ↓reduceIte]
  generalize xs (Int32.toNatClampNeg (a4 + (1 : Int32))) = x1
  generalize xs (Int32.toNatClampNeg (a4 + (2 : Int32))) = x2
  unfold mL_valueAt
  by_cases e : ∃ c, c < A.nC ∧ x1 = nI c
  · obtain ⟨c, hc, rfl⟩ := e
    by_cases e2 : ∃ i, i < (A.ls (1 + c)).length ∧ x2 = nI i
    · obtain ⟨i, hi, rfl⟩ := e2
      exact xs_g3 w fa (xs_L0 (xs_cS.of (xs_c_valueAt jc hc hi) jc) w.1 w.1 jr) (fun h1 j1 => xs_r_valueAt j1 w.1 hc hi)
    · have e9 : ∀ i, i < (A.ls (1 + c)).length → x2 ≠ nI i := fun i hi z => e2 ⟨i, hi, z⟩
      exact xs_g3 w fa (xs_L1 (xs_c1_valueAt jc hc e9) (by decide) (by decide) rfl jc jr) (fun h1 j1 => xs_r1_valueAt j1 w.1 hc e9)
  · have e9 : ∀ c, c < A.nC → x1 ≠ nI c := fun c hc z => e ⟨c, hc, z⟩
    exact xs_g3 w fa (xs_L1 (xs_c0_valueAt jc e9) (by decide) (by decide) rfl jc jr) (fun h1 j1 => xs_r0_valueAt j1 w.1 e9)
theorem xs_l24 (j : xs_J A k h) (hk : k + 261 < 2 ^ 31) (i1 : xo_ix (a4 + (1 : Int32)) L = true) (i2 : xo_ix (a4 + (2 : Int32)) L = true) : xs_Go (lwc_24 xs L a4 h) k := by
  obtain ⟨jc, jr, w, fa⟩ := j
  unfold lwc_24
  simp only [i1, i2, ↓reduceIte]
  generalize xs (Int32.toNatClampNeg (a4 + (1 : Int32))) = x1
  generalize xs (Int32.toNatClampNeg (a4 + (2 : Int32))) = x2
  unfold mL_sumIn
  by_cases e : ∃ f, f < A.nF ∧ x1 = nI f
  · obtain ⟨f, hf, rfl⟩ := e
    by_cases e2 : ∃ t, 1 ≤ t ∧ t ≤ 60 ∧ x2 = nI t
    · obtain ⟨t, ht1, ht2, rfl⟩ := e2
      exact xs_g3 w fa (xs_L0 (xs_c_sumIn jc w fa hf ht1 ht2) w.1 w.1 jr) (fun h1 j1 => xs_r_sumIn j1 w (by omega) hf ht1 ht2)
    · have e9 : ∀ t, 1 ≤ t → t ≤ 60 → x2 ≠ nI t := fun t ht1 ht2 z => e2 ⟨t, ht1, ht2, z⟩
      exact xs_g3 w fa (xs_L1 (xs_c1_sumIn jc hf e9) (by decide) (by decide) rfl jc jr) (fun h1 j1 => xs_r1_sumIn j1 w.1 hf e9)
  · have e9 : ∀ f, f < A.nF → x1 ≠ nI f := fun f hf z => e ⟨f, hf, z⟩
    exact xs_g3 w fa (xs_L1 (xs_c0_sumIn jc e9) (by decide) (by decide) rfl jc jr) (fun h1 j1 => xs_r0_sumIn j1 w.1 e9)
theorem xs_l0 (j : xs_J A k h) (hk : k + 261 < 2 ^ 31) (i1 : xo_ix (a4 + (1 : Int32)) L = true) : xs_Go (lwc_0 xs L a4 h) k := by
  obtain ⟨jc, jr, w, fa⟩ := j
  unfold lwc_0
  simp only [i1, ↓reduceIte]
  generalize xs (Int32.toNatClampNeg (a4 + (1 : Int32))) = x1
  unfold mL_addChannel
  by_cases e : ∃ p, 1 ≤ p ∧ p ≤ 4 ∧ x1 = nI p
  · obtain ⟨p, p1, p4, rfl⟩ := e
    by_cases h4 : A.nC < 4
    · obtain ⟨w', fa'⟩ := w.addC fa h4 p1 (p := p) (by omega)
      exact xs_g3 w' fa' (xs_L0 (xs_c_addChannel jc w h4 p1 p4) w'.1 w.1 jr) (fun h1 j1 => xs_r_addChannel j1 w h4 p1 p4)
    · exact xs_g3 w fa (xs_L1 (xs_c2_addChannel jc h4 p1 p4) (by decide) (by decide) rfl jc jr) (fun h1 j1 => xs_r2_addChannel j1 w.1 h4 p1 p4)
  · have e9 : ∀ p, 1 ≤ p → p ≤ 4 → x1 ≠ nI p := fun p p1 p4 z => e ⟨p, p1, p4, z⟩
    exact xs_g3 w fa (xs_L1 (xs_c1_addChannel e9) (by decide) (by decide) rfl jc jr) (fun h1 j1 => xs_r1_addChannel j1 w.1 e9)
theorem xs_l1 (j : xs_J A k h) (hk : k + 261 < 2 ^ 31)  : xs_Go (lwc_1 xs L a4 h) k := by
  obtain ⟨jc, jr, w, fa⟩ := j
  unfold lwc_1
  unfold mL_addFiber
  by_cases h8 : A.nF < 8
  · obtain ⟨w', fa'⟩ := w.addF fa h8
    exact xs_g3 w' fa' (xs_L0 (xs_c_addFiber jc w fa h8) w'.1 w.1 jr) (fun h1 j1 => xs_r_addFiber j1 w fa h8)
  · exact xs_g3 w fa (xs_L1 (xs_c2_addFiber jc h8) (by decide) (by decide) rfl jc jr) (fun h1 j1 => xs_r2_addFiber j1 w.1 h8)
theorem xs_l2 (j : xs_J A k h) (hk : k + 261 < 2 ^ 31) (i1 : xo_ix (a4 + (1 : Int32)) L = true) (i2 : xo_ix (a4 + (2 : Int32)) L = true) (i3 : xo_ix (a4 + (3 : Int32)) L = true) (i4 : xo_ix (a4 + (4 : Int32)) L = true) : xs_Go (lwc_2 xs L a4 h) k := by
  obtain ⟨jc, jr, w, fa⟩ := j
  unfold lwc_2
  simp only [i1, i2, i3, i4, ↓reduceIte]
  generalize xs (Int32.toNatClampNeg (a4 + (1 : Int32))) = x1
  generalize xs (Int32.toNatClampNeg (a4 + (2 : Int32))) = x2
  generalize xs (Int32.toNatClampNeg (a4 + (3 : Int32))) = x3
  generalize xs (Int32.toNatClampNeg (a4 + (4 : Int32))) = x4
  unfold mL_addStep
  by_cases e : ∃ f, f < A.nF ∧ x1 = nI f
  · obtain ⟨f, hf, rfl⟩ := e
    by_cases ok : xs_okS A f x2 x3 x4
    · by_cases hc : A.sc f < 12
      · obtain ⟨w', fa'⟩ := w.grown fa hf ok hc
        exact xs_g3 w' fa' (xs_L0 (xs_c_addStep jc w fa hf ok hc) w'.1 w.1 jr) (fun h1 j1 => xs_r_addStep j1 w fa hf ok hc)
      · exact xs_g3 w fa (xs_L1 (xs_c2_addStep jc w hf ok hc) (by decide) (by decide) rfl jc jr) (fun h1 j1 => xs_r2_addStep j1 w.1 hf ok hc)
    · exact xs_g3 w fa (xs_L1 (xs_c1_addStep jc w hf ok) (by decide) (by decide) rfl jc jr) (fun h1 j1 => xs_r1_addStep j1 w.1 hf ok)
  · have e9 : ∀ f, f < A.nF → x1 ≠ nI f := fun f hf z => e ⟨f, hf, z⟩
    exact xs_g3 w fa (xs_L1 (xs_c0_addStep jc e9) (by decide) (by decide) rfl jc jr) (fun h1 j1 => xs_r0_addStep j1 w.1 e9)
theorem xs_l3 (j : xs_J A k h) (hk : k + 261 < 2 ^ 31) (i1 : xo_ix (a4 + (1 : Int32)) L = true) (i2 : xo_ix (a4 + (2 : Int32)) L = true) : xs_Go (lwc_3 xs L a4 h) k := by
  obtain ⟨jc, jr, w, fa⟩ := j
  unfold lwc_3
  simp only [i1, i2, ↓reduceIte]
  generalize xs (Int32.toNatClampNeg (a4 + (1 : Int32))) = x1
  generalize xs (Int32.toNatClampNeg (a4 + (2 : Int32))) = x2
  unfold mL_pour
  by_cases e : ∃ c, c < A.nC ∧ x1 = nI c
  · obtain ⟨c, hc, rfl⟩ := e
    by_cases hv : ¬ x2 < -999 ∧ ¬ 999 < x2
    · by_cases hn : A.a 8 c ≤ nI (A.ls (1 + c)).length
      · exact xs_g3 w fa (xs_L1 (xs_c2_pour jc w hc hv hn) (by decide) (by decide) rfl jc jr) (fun h1 j1 => xs_r2_pour j1 w hc hv hn)
      · obtain ⟨w', fa', _⟩ := w.putQ fa hc (v := x2) hn
        exact xs_g3 w' fa' (xs_L0 (xs_c_pour jc w fa hc hv hn) w'.1 w.1 jr) (fun h1 j1 => xs_r_pour j1 w (by omega) hc hv hn)
    · exact xs_g3 w fa (xs_L1 (xs_c1_pour jc hc hv) (by decide) (by decide) rfl jc jr) (fun h1 j1 => xs_r1_pour j1 w.1 hc hv)
  · have e9 : ∀ c, c < A.nC → x1 ≠ nI c := fun c hc z => e ⟨c, hc, z⟩
    exact xs_g3 w fa (xs_L1 (xs_c0_pour jc e9) (by decide) (by decide) rfl jc jr) (fun h1 j1 => xs_r0_pour j1 w.1 e9)
theorem xs_l4 (j : xs_J A k h) (hk : k + 261 < 2 ^ 31) (i1 : xo_ix (a4 + (1 : Int32)) L = true) : xs_Go (lwc_4 xs L a4 h) k := by
  obtain ⟨jc, jr, w, fa⟩ := j
  unfold lwc_4
  simp only [i1, ↓reduceIte]
  generalize xs (Int32.toNatClampNeg (a4 + (1 : Int32))) = x1
  unfold mL_run
  by_cases e : ∃ t, 1 ≤ t ∧ t ≤ 60 ∧ x1 = nI t
  · obtain ⟨t, ht1, ht2, rfl⟩ := e
    obtain ⟨w', f'⟩ := xs_W.turns t A w
    exact xs_g2 w' (fa.fr f' w.1) (xs_L0 (xs_c_run jc w fa ht1 ht2) w'.1 w.1 jr) (fun h1 j1 => xs_r_run j1 w ht1 ht2 (by omega))
  · have e9 : ∀ t, 1 ≤ t → t ≤ 60 → x1 ≠ nI t := fun t ht1 ht2 z => e ⟨t, ht1, ht2, z⟩
    exact xs_g3 w fa (xs_L1 (xs_c1_run e9) (by decide) (by decide) rfl jc jr) (fun h1 j1 => xs_r1_run j1 w.1 e9)
end CB
