/-! the first memory, and the clock that the cells choose -/
def xs_A0 : xs_A := (0, 0, fun _ => 0, fun _ _ => 0, fun _ _ => 0, fun _ _ => 0, (fun t i => if t = 1 then 5 else 0), fun _ => [])
section ST
theorem xs_A0_sz : xs_A0.sz := ⟨Nat.zero_le _, Nat.zero_le _, fun f hf => absurd hf (Nat.not_lt_zero _)⟩
theorem xs_A0_fresh : xs_fresh xs_A0 := ⟨fun f _ _ => ⟨rfl, fun t h1 _ => if_neg (by omega), rfl⟩, fun f j _ _ _ => if_neg (by omega), fun c _ _ => ⟨rfl, rfl, rfl, rfl⟩⟩
theorem xs_A0_W : xs_W xs_A0 99 := by
  refine ⟨xs_A0_sz, fun f j hf => absurd hf (Nat.not_lt_zero _), fun f hf => absurd hf (Nat.not_lt_zero _), fun f hf => absurd hf (Nat.not_lt_zero _), fun c hc => absurd hc (Nat.not_lt_zero _), fun n hn => ⟨⟨List.nodup_nil, fun x hx => absurd hx List.not_mem_nil⟩, fun f hf => absurd hf (Nat.not_lt_zero _)⟩⟩
theorem xi_hB {B : Nat} (hB : B = 0 ∨ B = 175) {r : Nat} (hr : r < 175) : xi_h (B + r) = xi_g r := by
  unfold xi_h
  rcases hB with rfl | rfl
  · rw [Nat.zero_add, if_pos hr]
  · rw [if_neg (by omega), if_pos (by omega), Nat.add_sub_cancel_left]
theorem xi_g0 {r : Nat} (hr : r < 40) : xi_g r = fun _ => 0 := if_pos hr
theorem xi_gf {f : Nat} (hf : f < 8) : xi_g (40 + 15 * f) = fun j => if j = 0 then nI f else if j = 1 then 5 else 0 := by
  unfold xi_g
  rw [if_neg (by omega), show (40 + 15 * f - 40) % 15 = 0 by omega]
  unfold xi_gF xi_num
  rw [if_pos (by omega), show (40 + 15 * f - 40) / 15 = f by omega]
  funext j
  rw [if_pos rfl]
theorem xi_gs {f i : Nat} (hf : f < 8) (hi : i < 12) : xi_g (42 + 15 * f + i) = fun j => if j = 0 then 3 else 0 := by
  unfold xi_g
  rw [if_neg (by omega), show (42 + 15 * f + i - 40) % 15 = 2 + i by omega]
  unfold xi_gF
  funext j
  rw [if_neg (by omega), if_neg (by omega)]
theorem xs_CR0 {B : Nat} (hB : B = 0 ∨ B = 175) : xs_CR B xi_h xs_A0 := by
  have z : ∀ r, r < 40 → xi_h (B + r) = fun _ => 0 := fun r hr => (xi_hB hB (by omega)).trans (xi_g0 hr)
  have zf : ∀ f, f < 8 → xi_h (B + 40 + 15 * f) = fun j => if j = 0 then nI f else if j = 1 then 5 else 0 := fun f hf => by
    rw [show B + 40 + 15 * f = B + (40 + 15 * f) by omega, xi_hB hB (by omega), xi_gf hf]
  have zs : ∀ f i, f < 8 → i < 12 → xi_h (B + 42 + 15 * f + i) = fun j => if j = 0 then 3 else 0 := fun f i hf hi => by
    rw [show B + 42 + 15 * f + i = B + (42 + 15 * f + i) by omega, xi_hB hB (by omega), xi_gs hf hi]
  refine xs_CR.mk ⟨Nat.zero_le _, Nat.zero_le _⟩ ?_ ?_ (fun f hf => ?_) (fun f hf => ?_) (fun f j hf => absurd hf (Nat.not_lt_zero _)) (fun t i hd => ?_) (fun n hn => ?_)
  · have := z 0 (by omega)
    rw [Nat.add_zero] at this
    rw [this]; rfl
  · have := z 0 (by omega)
    rw [Nat.add_zero] at this
    rw [this]; rfl
  · rw [zf f hf]; rfl
  · rw [zf f hf]; rfl
  · rcases hd with ⟨a1, a2, a3⟩ | ⟨a1, a2⟩ | ⟨a1, a2⟩ | ⟨a1, a2⟩ | ⟨a1, a2, a3⟩
    · have ek : xs_sk B t i = B + 40 + 15 * i := if_pos a2
      have ej : xs_sj t = t := if_pos a2
      rw [ek, ej, zf i a3]
      show (if t = 0 then nI i else if t = 1 then 5 else 0) = if t = 1 then 5 else 0
      rw [if_neg (by omega)]
    · subst a1
      have ek : xs_sk B 8 i = B + (5 + 7 * i) := by unfold xs_sk; rw [if_neg (by omega), if_pos rfl]; omega
      rw [ek, z _ (by omega)]
      rfl
    · subst a1
      have ek : xs_sk B 9 i = B + 0 := by unfold xs_sk; rw [if_neg (by omega), if_neg (by omega), if_pos (by omega)]; omega
      rw [ek, z _ (by omega)]
      rfl
    · subst a1
      have ek : xs_sk B 10 i = B + 0 := by unfold xs_sk; rw [if_neg (by omega), if_neg (by omega), if_pos (by omega)]; omega
      rw [ek, z _ (by omega)]
      rfl
    · have ek : xs_sk B t i = B + 42 + 15 * (t - 20) + i := by unfold xs_sk; rw [if_neg (by omega), if_neg (by omega), if_neg (by omega)]
      have ej : xs_sj t = 3 := by unfold xs_sj; rw [if_neg (by omega), if_neg (by omega), if_neg (by omega), if_neg (by omega)]
      rw [ek, ej, zs (t - 20) i (by omega) a3]
      show (if (3 : Nat) = 0 then (3 : Int32) else 0) = if t = 1 then 5 else 0
      rw [if_neg (by omega), if_neg (by omega)]
  · have hq : ∃ r, r < 39 ∧ xs_qk B n = B + r := by
      rcases hn with b1 | ⟨b1, b2⟩ | ⟨b1, b2⟩ | ⟨b1, b2⟩
      · exact ⟨3, by omega, by unfold xs_qk; rw [if_pos b1]⟩
      · exact ⟨6 + 7 * (n - 1), by omega, by unfold xs_qk; rw [if_neg (by omega), if_pos (by omega)]; omega⟩
      · exact ⟨8 + 7 * (n - 5), by omega, by unfold xs_qk; rw [if_neg (by omega), if_neg (by omega), if_pos (by omega)]; omega⟩
      · exact ⟨10 + 7 * (n - 9), by omega, by unfold xs_qk; rw [if_neg (by omega), if_neg (by omega), if_neg (by omega)]; omega⟩
    obtain ⟨r, hr, e⟩ := hq
    refine ⟨Nat.zero_le _, ?_, fun i hi => absurd hi (Nat.not_lt_zero _)⟩
    rw [e, z r (by omega)]
    rfl
theorem xd_I0 : xd_I xs_A0 := ⟨xs_A0_W, xs_A0_fresh, ⟨fun f hf => absurd hf (Nat.not_lt_zero _), fun c hc => absurd hc (Nat.not_lt_zero _)⟩, rfl⟩
theorem ys_G0 : ys_G xs_A0 xi_h yz_0 := by
  refine ⟨⟨xs_CR0 (Or.inl rfl), xs_A0, xs_CR0 (Or.inr rfl), xs_A0_sz, xs_A0_fresh, Nat.le_refl _, Nat.le_refl _, fun _ _ => Nat.le_refl _⟩, xd_I0, [], ⟨⟨rfl, rfl, rfl⟩, ⟨rfl, rfl⟩, fun c hc => absurd hc (Nat.not_lt_zero _), fun c hc => absurd hc (Nat.not_lt_zero _), ⟨⟨rfl, fun i hi => absurd hi (Nat.not_lt_zero _)⟩, ⟨rfl, fun i hi => absurd hi (Nat.not_lt_zero _)⟩⟩, fun f t hf => absurd hf (Nat.not_lt_zero _), fun f hf => absurd hf (Nat.not_lt_zero _), fun f j hf => absurd hf (Nat.not_lt_zero _), fun f j hf => absurd hf (Nat.not_lt_zero _)⟩, ⟨⟨List.nodup_nil, fun x hx => absurd hx List.not_mem_nil⟩, fun g hg => absurd hg (Nat.not_lt_zero _), fun c hc => absurd hc (Nat.not_lt_zero _)⟩⟩
theorem ys_bl {L : Nat} {xs : Nat → Int32} (hL : L < 2 ^ 31) {n : Nat} (hn : n ≤ 35) : ∀ (m k fu : Nat) (h : xw_M) (y : yz_Y) (A : xs_A), ys_G A h y → k + m = n → m < fu → ∃ A' h' y', mL_build_b25 L xs (nI n) fu h y (nI k) = some (h', y', ()) ∧ ys_G A' h' y' := by
  intro m
  induction m with
  | zero =>
    intro k fu h y A G hk hf
    cases fu with
    | zero => omega
    | succ fu => exact ⟨A, h, y, by rw [mL_build_b25, if_pos (nI_le (by omega) (by omega))], G⟩
  | succ m ih =>
    intro k fu h y A G hk hf
    cases fu with
    | zero => omega
    | succ fu =>
      have h15 := Nat.mod_lt k (show 0 < 15 by omega)
      obtain ⟨v, ev⟩ := ys_cell (y := y) (xs := xs) hL (a := k % 15 + 1) (by omega)
      have e15 : (1 : Int32) + (nI k - nI k / (15 : Int32) * (15 : Int32)) = nI (k % 15 + 1) := by
        have := xd_mod (i := k) (n := 15) (by omega) (by omega) (by omega)
        rw [show (15 : Int32) = nI 15 from rfl, this, Int32.add_comm, nI_1]
      have e4 : nI k - nI k / (4 : Int32) * (4 : Int32) = nI (k % 4) := xd_mod (i := k) (n := 4) (by omega) (by omega) (by omega)
      have fin : ∀ x, ∃ A' h' y', mL_build_b109 L xs (mL_build_b25 L xs (nI n) fu) (nI n) (nI k) h y x = some (h', y', ()) ∧ ys_G A' h' y' := fun x => by
        obtain ⟨A1, h1, y1, q1, q2⟩ := ys_act G x
        unfold mL_build_b109
        rw [q1, Option.bind_some]
        dsimp only
        rw [if_neg (by decide), nI_1]
        exact ih (k + 1) fu h1 y1 A1 q2 (by omega) (by omega)
      rw [mL_build_b25, if_neg (nI_ge (by omega) (by omega)), if_neg (by decide), e15, ev, Option.bind_some]
      dsimp only
      rw [if_neg (by decide)]
      split
      · rw [if_neg (by decide)]
        split
        · exact fin _
        · obtain ⟨i, hi, ei⟩ := ys_below (y := y) (b := 16) (n := 16) rfl (by omega) (by omega) ((v >>> (((nI k / (15 : Int32)) * (3 : Int32)) &&& 31)) + ((11 : Int32) * nI k))
          rw [ei, Option.bind_some]
          exact fin _
      · obtain ⟨i, hi, ei⟩ := ys_below (y := y) (b := 16) (n := 16) rfl (by omega) (by omega) ((v >>> (((nI k / (15 : Int32)) * (3 : Int32)) &&& 31)) + ((11 : Int32) * nI k))
        rw [ei, Option.bind_some, if_neg (by decide)]
        exact fin _
theorem ys_build {L : Nat} {xs : Nat → Int32} (hL : L < 2 ^ 31) : ∃ A' h' y', mL_build L xs xi_h yz_0 = some (h', y', ()) ∧ ys_G A' h' y' := by
  obtain ⟨v, ev⟩ := ys_cell (y := yz_0) (xs := xs) hL (a := 0) (by omega)
  obtain ⟨i, hi, ei⟩ := ys_below (y := yz_0) (b := 24) (n := 24) rfl (by omega) (by omega) v
  unfold mL_build
  rw [show (0 : Int32) = nI 0 from rfl, ev, Option.bind_some]
  dsimp only
  rw [ei, Option.bind_some]
  dsimp only
  rw [show (12 : Int32) = nI 12 from rfl, nI_add]
  exact ys_bl hL (by omega) (12 + i) 0 36 xi_h yz_0 xs_A0 ys_G0 (by omega) (by omega)
end ST
