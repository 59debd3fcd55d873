/-! the first memory; the whole run -/
def xs_A0 : xs_A := (0, 0, fun _ => 0, fun _ _ => 0, fun _ _ => 0, fun _ _ => 0, (fun t i => if t = 1 then 5 else 0), fun _ => [])
section ST
theorem xs_A0_sz : xs_A0.sz := ⟨Nat.zero_le _, Nat.zero_le _, fun f hf => absurd hf (Nat.not_lt_zero _)⟩
theorem xs_A0_fresh : xs_fresh xs_A0 := ⟨fun f _ _ => ⟨rfl, fun t h1 _ => if_neg (by omega), rfl⟩, fun f j _ _ _ => if_neg (by omega), fun c _ _ => ⟨rfl, rfl, rfl, rfl⟩⟩
theorem xs_A0_W : xs_W xs_A0 99 := by
  refine ⟨xs_A0_sz, fun f j hf => absurd hf (Nat.not_lt_zero _), fun f hf => absurd hf (Nat.not_lt_zero _), fun f hf => absurd hf (Nat.not_lt_zero _), fun c hc => absurd hc (Nat.not_lt_zero _), fun n hn => ⟨⟨List.nodup_nil, fun x hx => absurd hx List.not_mem_nil⟩, fun f hf => absurd hf (Nat.not_lt_zero _)⟩⟩
theorem xi_hB {B : Nat} (hB : B = 0 ∨ B = 175) {r : Nat} (hr : r < 175) : xi_h (B + r) = xi_g r := by
  unfold xi_h
  rcases hB with rfl | rfl
  · rw [Nat.zero_add, if_pos hr]
  · rw [if_neg (by omega), if_pos (by omega), Nat.add_sub_cancel_left]
theorem xi_g0 {r : Nat} (hr : r < 40) : xi_g r = fun _ => 0 := if_pos hr
theorem xi_gf {f : Nat} (hf : f < 8) : xi_g (40 + 15 * f) = fun j => if j = 0 then nI f else if j = 1 then 5 else 0 := by
  unfold xi_g
  rw [if_neg (by omega), show (40 + 15 * f - 40) % 15 = 0 by omega]
  unfold xi_gF xi_num
  rw [if_pos (by omega), show (40 + 15 * f - 40) / 15 = f by omega]
  funext j
  rw [if_pos rfl]
theorem xi_gs {f i : Nat} (hf : f < 8) (hi : i < 12) : xi_g (42 + 15 * f + i) = fun j => if j = 0 then 3 else 0 := by
  unfold xi_g
  rw [if_neg (by omega), show (42 + 15 * f + i - 40) % 15 = 2 + i by omega]
  unfold xi_gF
  funext j
  rw [if_neg (by omega), if_neg (by omega)]
theorem xs_CR0 {B : Nat} (hB : B = 0 ∨ B = 175) : xs_CR B xi_h xs_A0 := by
  have z : ∀ r, r < 40 → xi_h (B + r) = fun _ => 0 := fun r hr => (xi_hB hB (by omega)).trans (xi_g0 hr)
  have zf : ∀ f, f < 8 → xi_h (B + 40 + 15 * f) = fun j => if j = 0 then nI f else if j = 1 then 5 else 0 := fun f hf => by
    rw [show B + 40 + 15 * f = B + (40 + 15 * f) by omega, xi_hB hB (by omega), xi_gf hf]
  have zs : ∀ f i, f < 8 → i < 12 → xi_h (B + 42 + 15 * f + i) = fun j => if j = 0 then 3 else 0 := fun f i hf hi => by
    rw [show B + 42 + 15 * f + i = B + (42 + 15 * f + i) by omega, xi_hB hB (by omega), xi_gs hf hi]
  refine xs_CR.mk ⟨Nat.zero_le _, Nat.zero_le _⟩ ?_ ?_ (fun f hf => ?_) (fun f hf => ?_) (fun f j hf => absurd hf (Nat.not_lt_zero _)) (fun t i hd => ?_) (fun n hn => ?_)
  · have := z 0 (by omega)
    rw [Nat.add_zero] at this
    rw [this]; rfl
  · have := z 0 (by omega)
    rw [Nat.add_zero] at this
    rw [this]; rfl
  · rw [zf f hf]; rfl
  · rw [zf f hf]; rfl
  · rcases hd with ⟨a1, a2, a3⟩ | ⟨a1, a2⟩ | ⟨a1, a2⟩ | ⟨a1, a2⟩ | ⟨a1, a2, a3⟩
    · have ek : xs_sk B t i = B + 40 + 15 * i := if_pos a2
      have ej : xs_sj t = t := if_pos a2
      rw [ek, ej, zf i a3]
      show (if t = 0 then nI i else if t = 1 then 5 else 0) = if t = 1 then 5 else 0
      rw [if_neg (by omega)]
    · subst a1
      have ek : xs_sk B 8 i = B + (5 + 7 * i) := by unfold xs_sk; rw [if_neg (by omega), if_pos rfl]; omega
      rw [ek, z _ (by omega)]
      rfl
    · subst a1
      have ek : xs_sk B 9 i = B + 0 := by unfold xs_sk; rw [if_neg (by omega), if_neg (by omega), if_pos (by omega)]; omega
      rw [ek, z _ (by omega)]
      rfl
    · subst a1
      have ek : xs_sk B 10 i = B + 0 := by unfold xs_sk; rw [if_neg (by omega), if_neg (by omega), if_pos (by omega)]; omega
      rw [ek, z _ (by omega)]
      rfl
    · have ek : xs_sk B t i = B + 42 + 15 * (t - 20) + i := by unfold xs_sk; rw [if_neg (by omega), if_neg (by omega), if_neg (by omega)]
      have ej : xs_sj t = 3 := by unfold xs_sj; rw [if_neg (by omega), if_neg (by omega), if_neg (by omega), if_neg (by omega)]
      rw [ek, ej, zs (t - 20) i (by omega) a3]
      show (if (3 : Nat) = 0 then (3 : Int32) else 0) = if t = 1 then 5 else 0
      rw [if_neg (by omega), if_neg (by omega)]
  · have hq : ∃ r, r < 39 ∧ xs_qk B n = B + r := by
      rcases hn with b1 | ⟨b1, b2⟩ | ⟨b1, b2⟩ | ⟨b1, b2⟩
      · exact ⟨3, by omega, by unfold xs_qk; rw [if_pos b1]⟩
      · exact ⟨6 + 7 * (n - 1), by omega, by unfold xs_qk; rw [if_neg (by omega), if_pos (by omega)]; omega⟩
      · exact ⟨8 + 7 * (n - 5), by omega, by unfold xs_qk; rw [if_neg (by omega), if_neg (by omega), if_pos (by omega)]; omega⟩
      · exact ⟨10 + 7 * (n - 9), by omega, by unfold xs_qk; rw [if_neg (by omega), if_neg (by omega), if_neg (by omega)]; omega⟩
    obtain ⟨r, hr, e⟩ := hq
    refine ⟨Nat.zero_le _, ?_, fun i hi => absurd hi (Nat.not_lt_zero _)⟩
    rw [e, z r (by omega)]
    rfl
theorem xs_J0 : xs_J xs_A0 0 xi_h := by
  have zr : ∀ c, 350 ≤ c → xi_h c = fun _ => 0 := fun c hc => by
    unfold xi_h
    rw [if_neg (by omega), if_neg (by omega)]
  refine ⟨⟨xs_CR0 (Or.inl rfl), xs_A0, xs_CR0 (Or.inr rfl), xs_A0_sz, xs_A0_fresh, Nat.le_refl _, Nat.le_refl _, fun _ _ => Nat.le_refl _⟩, ⟨⟨?_, ?_, fun f hf => ?_, fun f j hf => absurd hf (Nat.not_lt_zero _)⟩, fun _ => 0, ?_⟩, xs_A0_W, xs_A0_fresh⟩
  · rw [zr 351 (by omega)]; rfl
  · rw [zr 351 (by omega)]; rfl
  · rw [zr 352 (by omega)]; rfl
  · rw [zr 356 (by omega)]
    refine ⟨fun t i hd => ?_, fun n hn => ⟨Nat.zero_le _, rfl, fun i hi => absurd hi (Nat.not_lt_zero _)⟩, rfl, fun f hf => ⟨rfl, Nat.le_refl _⟩, fun f hf => absurd hf (Nat.not_lt_zero _), fun n hn h0 => List.Pairwise.nil⟩
    show (0 : Int32) = if t = 1 then 5 else 0
    have : t ≠ 1 := by
      intro z
      subst z
      rcases hd with ⟨a1, a2, a3⟩ | ⟨a1, a2⟩ | ⟨a1, a2⟩ | ⟨a1, a2⟩ | ⟨a1, a2, a3⟩ | ⟨a1, a2, a3⟩
      · exact absurd a3 (Nat.not_lt_zero _)
      · omega
      · omega
      · omega
      · omega
      · omega
    rw [if_neg this]
theorem xs_Go.rf {A : xs_A} {k : Nat} {h : xw_M} (j : xs_J A k h) : xs_Go (some h) k := ⟨h, A, k, rfl, j, by omega⟩
/-- one turn of the law keeps all this -/
theorem xs_step {A : xs_A} {k : Nat} {h : xw_M} (j : xs_J A k h) (hk : k + 261 < 2 ^ 31) {xs : Nat → Int32} {L i : Nat} (hi : i + 5 ≤ L) (hL : L ≤ 2560) : xs_Go (lw_step xs L (nI i) h) k := by
  have ix : ∀ q, q < 5 → xo_ix (nI i + nI q) L = true := fun q hq => by
    rw [nI_add]
    exact xs_ix (by omega) (by omega)
  have i1 : xo_ix (nI i + (1 : Int32)) L = true := ix 1 (by omega)
  have i2 : xo_ix (nI i + (2 : Int32)) L = true := ix 2 (by omega)
  have i3 : xo_ix (nI i + (3 : Int32)) L = true := ix 3 (by omega)
  have i4 : xo_ix (nI i + (4 : Int32)) L = true := ix 4 (by omega)
  unfold lw_step
  rw [if_pos (xs_ix (i := i) (by omega) (by omega))]
  dsimp only
  generalize xs (Int32.toNatClampNeg (nI i)) &&& 31 = op
  by_cases c0 : op = 0
  · rw [if_pos c0]
    exact xs_l0 j hk i1
  rw [if_neg c0]
  by_cases c1 : op = 1
  · rw [if_pos c1]
    exact xs_l1 j hk
  rw [if_neg c1]
  by_cases c2 : op = 2
  · rw [if_pos c2]
    exact xs_l2 j hk i1 i2 i3 i4
  rw [if_neg c2]
  by_cases c3 : op = 3
  · rw [if_pos c3]
    exact xs_l3 j hk i1 i2
  rw [if_neg c3]
  by_cases c4 : op = 4
  · rw [if_pos c4]
    exact xs_l4 j hk i1
  rw [if_neg c4]
  by_cases c5 : op = 5
  · rw [if_pos c5]
    exact xs_l5 j hk
  rw [if_neg c5]
  by_cases c6 : op = 6
  · rw [if_pos c6]
    exact xs_l6 j hk
  rw [if_neg c6]
  by_cases c7 : op = 7
  · rw [if_pos c7]
    exact xs_l7 j hk
  rw [if_neg c7]
  by_cases c8 : op = 8
  · rw [if_pos c8]
    exact xs_l8 j hk
  rw [if_neg c8]
  by_cases c9 : op = 9
  · rw [if_pos c9]
    exact xs_l9 j hk
  rw [if_neg c9]
  by_cases c10 : op = 10
  · rw [if_pos c10]
    exact xs_l10 j hk
  rw [if_neg c10]
  by_cases c11 : op = 11
  · rw [if_pos c11]
    exact xs_l11 j hk
  rw [if_neg c11]
  by_cases c12 : op = 12
  · rw [if_pos c12]
    exact xs_l12 j hk i1
  rw [if_neg c12]
  by_cases c13 : op = 13
  · rw [if_pos c13]
    exact xs_l13 j hk i1 i2
  rw [if_neg c13]
  by_cases c14 : op = 14
  · rw [if_pos c14]
    exact xs_l14 j hk i1
  rw [if_neg c14]
  by_cases c15 : op = 15
  · rw [if_pos c15]
    exact xs_l15 j hk i1
  rw [if_neg c15]
  by_cases c16 : op = 16
  · rw [if_pos c16]
    exact xs_l16 j hk i1
  rw [if_neg c16]
  by_cases c17 : op = 17
  · rw [if_pos c17]
    exact xs_l17 j hk i1
  rw [if_neg c17]
  by_cases c18 : op = 18
  · rw [if_pos c18]
    exact xs_l18 j hk i1
  rw [if_neg c18]
  by_cases c19 : op = 19
  · rw [if_pos c19]
    exact xs_l19 j hk i1
  rw [if_neg c19]
  by_cases c20 : op = 20
  · rw [if_pos c20]
    exact xs_l20 j hk i1
  rw [if_neg c20]
  by_cases c21 : op = 21
  · rw [if_pos c21]
    exact xs_l21 j hk i1
  rw [if_neg c21]
  by_cases c22 : op = 22
  · rw [if_pos c22]
    exact xs_l22 j hk i1
  rw [if_neg c22]
  by_cases c23 : op = 23
  · rw [if_pos c23]
    exact xs_l23 j hk
  rw [if_neg c23]
  by_cases c24 : op = 24
  · rw [if_pos c24]
    exact xs_l24 j hk i1 i2
  rw [if_neg c24]
  by_cases c25 : op = 25
  · rw [if_pos c25]
    exact xs_l25 j hk i1
  rw [if_neg c25]
  by_cases c26 : op = 26
  · rw [if_pos c26]
    exact xs_l26 j hk
  rw [if_neg c26]
  by_cases c27 : op = 27
  · rw [if_pos c27]
    exact xs_l27 j hk
  rw [if_neg c27]
  exact xs_Go.rf j
theorem xs_pure {xs : Nat → Int32} {L : Nat} (hL : L ≤ 2560) : ∀ (n q : Nat) (A : xs_A) (k : Nat) (h : xw_M), xs_J A k h → k ≤ 60 * q → q + n = 513 → lw_pure xs L n (nI (5 * q)) h = (if n = 0 then false else true) := by
  intro n
  induction n with
  | zero => exact fun q A k h j hk hq => rfl
  | succ n ih =>
    intro q A k h j hk hq
    unfold lw_pure
    rw [if_neg (Nat.succ_ne_zero n)]
    by_cases h5 : L < 5 * q + 5
    · rw [if_pos]
      rw [Int32.lt_iff_toInt_lt, nI_toInt (by omega), show Int32.ofNat L = nI L from rfl]
      by_cases hl : 5 ≤ L
      · have e : nI L - 5 = nI (L - 5) := by
          rw [show (5 : Int32) = nI 5 from by decide, show nI L = nI (L - 5) + nI 5 by rw [nI_add, Nat.sub_add_cancel hl]]
          exact Int32.add_sub_cancel _ _
        rw [e, nI_toInt (by omega)]
        omega
      · have : (nI L - 5).toInt < 0 := by
          rcases (show L = 0 ∨ L = 1 ∨ L = 2 ∨ L = 3 ∨ L = 4 by omega) with rfl | rfl | rfl | rfl | rfl <;> decide
        omega
    · have e : ¬ (Int32.ofNat L - 5 < nI (5 * q)) := by
        have e : nI L - 5 = nI (L - 5) := by
          rw [show (5 : Int32) = nI 5 from by decide, show nI L = nI (L - 5) + nI 5 by rw [nI_add, Nat.sub_add_cancel (by omega)]]
          exact Int32.add_sub_cancel _ _
        rw [show Int32.ofNat L = nI L from rfl, e]
        exact nI_nlt (by omega) (by omega)
      rw [if_neg e]
      obtain ⟨h', A', k', e', j', hk'⟩ := xs_step j (by omega) (xs := xs) (L := L) (i := 5 * q) (by omega) hL
      rw [e']
      have hn : n ≠ 0 := by omega
      have := ih (q + 1) A' k' h' j' (by omega) (by omega)
      rw [if_neg hn] at this
      rw [show nI (5 * q) + 5 = nI (5 * (q + 1)) by rw [show (5 : Int32) = nI 5 from by decide, nI_add, Nat.mul_succ]]
      exact this
theorem lw_pure_ok {xs : Nat → Int32} {L : Nat} (hL : L ≤ 2560) : lw_pure xs L 513 0 xi_h = true := by
  have := xs_pure (xs := xs) hL 513 0 xs_A0 0 xi_h xs_J0 (Nat.le_refl _) rfl
  exact this
end ST
