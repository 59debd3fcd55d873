/-! the law's first world is the pure one: the codes' addresses, the first memory -/
def xi_fo (u : Nat) : Nat := if u < 2 then u else if u = 14 then 2 else u + 1
def xi_off (r : Nat) : Nat := if r < 3 then r else if r < 5 then r + 22 else if r < 33 then r + 22 else if r < 40 then r - 30 else if r < 160 then 55 + 15 * ((r - 40) / 15) + xi_fo ((r - 40) % 15) else 10 + xi_fo (r - 160)
def xi_ad (z k : Nat) : Nat := if k < 175 then z + 1 + xi_off k else if k < 350 then z + 176 + xi_off (k - 175) else if k = 350 then z else z + k
def xi_num (r : Nat) : Int32 := if r < 160 then nI ((r - 40) / 15) else -1
def xi_gF (num : Int32) (u : Nat) : Nat → Int32 := fun j => if u = 0 then (if j = 0 then num else if j = 1 then 5 else 0) else if u = 1 then 0 else if j = 0 then 3 else 0
def xi_g (r : Nat) : Nat → Int32 := if r < 40 then fun _ => 0 else xi_gF (xi_num r) ((r - 40) % 15)
/-- the first memory -/
def xi_h : xw_M := fun k => if k < 175 then xi_g k else if k < 350 then xi_g (k - 175) else fun _ => 0
theorem xi_chan {G : xw_G} {ad : Nat → Nat} {k0 q : Nat} (had : ∀ t, t < 7 → ad (k0 + t) = q + t) (hk : ∀ t, t < 7 → xw_kd (k0 + t) = if t = 0 then 0 else if t % 2 = 1 then 3 else 11) : ∀ t, t < 7 → xv_cB G q t = xw_ct (xg_T G) ad (xw_kd (k0 + t)) (k0 + t) (fun _ => 0) := by
  intro t ht
  rw [hk t ht]
  have h1 := had 1 (by omega)
  have h2 := had 2 (by omega)
  have h3 := had 3 (by omega)
  have h4 := had 4 (by omega)
  have h5 := had 5 (by omega)
  have h6 := had 6 (by omega)
  rcases (show t = 0 ∨ t = 1 ∨ t = 2 ∨ t = 3 ∨ t = 4 ∨ t = 5 ∨ t = 6 by omega) with rfl | rfl | rfl | rfl | rfl | rfl | rfl
  · show (.inr (0, [.int 0, .ref (q + 1), .ref (q + 1 + 2), .ref (q + 1 + 4)]) : va_E) = .inr (0, [.int 0, .ref (ad (k0 + 1)), .ref (ad (k0 + 3)), .ref (ad (k0 + 5))])
    rw [h1, h3, h5]
  · show (.inr (3, [.ref (q + 1 + 1), .int 0]) : va_E) = .inr (3, [.ref (ad (k0 + 1 + 1)), .int 0])
    rw [show k0 + 1 + 1 = k0 + 2 from rfl, h2]
  · rfl
  · show (.inr (3, [.ref (q + 3 + 1), .int 0]) : va_E) = .inr (3, [.ref (ad (k0 + 3 + 1)), .int 0])
    rw [show k0 + 3 + 1 = k0 + 4 from rfl, h4]
  · rfl
  · show (.inr (3, [.ref (q + 5 + 1), .int 0]) : va_E) = .inr (3, [.ref (ad (k0 + 5 + 1)), .int 0])
    rw [show k0 + 5 + 1 = k0 + 6 from rfl, h6]
  · rfl
theorem xi_fib {G : xw_G} {ad : Nat → Nat} {k0 q x : Nat} {num : Int32} {H : Heap} (had : ∀ t, t < 15 → ad (k0 + t) = q + xi_fo t) (hk : ∀ t, t < 15 → xw_kd (k0 + t) = if t = 0 then 2 else if t = 1 then 10 else 4) : ∀ t, t < 15 → va_at (xg_D G) vwCl (x, xv_fB G num q (xi_fo t)) H → va_at (xg_D G) vwCl (x, xw_ct (xg_T G) ad (xw_kd (k0 + t)) (k0 + t) (xi_gF num t)) H := by
  intro t ht h
  rw [hk t ht]
  by_cases h0 : t = 0
  · subst h0
    have h1 := had 1 (by omega)
    have h2 := had 14 (by omega)
    have e : xw_ct (xg_T G) ad (if 0 = 0 then 2 else if 0 = 1 then 10 else 4) (k0 + 0) (xi_gF num 0) = xv_fB G num q (xi_fo 0) := by
      show (.inr (2, [.int num, .int 5, .int 0, .int 0, .int 0, .int 0, .int 0, .int 0, .ref (ad (k0 + 1)), .ref (ad (k0 + 14))]) : va_E) = .inr (2, [.int num, .int 5, .int 0, .int 0, .int 0, .int 0, .int 0, .int 0, .ref (q + 1), .ref (q + 1 + 1)])
      rw [h1, h2]
      rfl
    rw [e]
    exact h
  · by_cases h1 : t = 1
    · subst h1
      have h2 : H[x]? = some (arrV (xg_T G 3) 12 (fun j => va_rf (if j < 12 then some (q + 3 + 1 * j) else none))) := h
      show H[x]? = some (arrV (xg_T G 3) 12 (fun j => va_rf (some (ad (k0 + 1 + 1 + j)))))
      rw [h2]
      refine congrArg some (arrV_congr (fun j hj => ?_))
      rw [if_pos hj, show k0 + 1 + 1 + j = k0 + (j + 2) by omega, had (j + 2) (by omega)]
      unfold xi_fo
      rw [if_neg (by omega), if_neg (by omega), show q + 3 + 1 * j = q + (j + 2 + 1) by omega]
    · have e1 : xv_fB G num q (xi_fo t) = xv_St := by
        unfold xv_fB xi_fo
        repeat' split
        all_goals first | rfl | omega
      have e2 : xw_ct (xg_T G) ad (if t = 0 then 2 else if t = 1 then 10 else 4) (k0 + t) (xi_gF num t) = xv_St := by
        rw [if_neg h0, if_neg h1]
        show (.inr (4, [.int (xi_gF num t 0), .int (xi_gF num t 1), .int (xi_gF num t 2), .int (xi_gF num t 3)]) : va_E) = _
        unfold xi_gF
        simp only [if_neg h0, if_neg h1]
        rfl
      rw [e2]
      rw [e1] at h
      exact h
theorem xi_clock {G : xw_G} {ad : Nat → Nat} {B y r : Nat} {H : Heap} (hB : B = 0 ∨ B = 175) (had : ∀ r, r < 175 → ad (B + r) = y + xi_off r) (hr : r < 175) {e : va_E} (he : xv_kK G (fun _ => none) y (y + 1) 4 8 (y + xi_off r) = some e) (h : va_at (xg_D G) vwCl (y + xi_off r, e) H) : va_at (xg_D G) vwCl (ad (B + r), xw_ct (xg_T G) ad (xw_kd (B + r)) (B + r) (xi_g r)) H := by
  have hkd : xw_kd (B + r) = xw_kr r := by
    unfold xw_kd
    rcases hB with rfl | rfl
    · rw [if_pos (by omega), Nat.zero_add]
    · rw [if_neg (by omega), if_pos (by omega), show 175 + r - 175 = r by omega]
  have hkd2 : ∀ r, r < 175 → xw_kd (B + r) = xw_kr r := fun r hr => by
    unfold xw_kd
    rcases hB with rfl | rfl
    · rw [if_pos (by omega), Nat.zero_add]
    · rw [if_neg (by omega), if_pos (by omega), show 175 + r - 175 = r by omega]
  rw [had r hr]
  by_cases c0 : r = 0
  · subst c0
    have e1 : xv_kK G (fun _ => none) y (y + 1) 4 8 (y + xi_off 0) = some (xv_Ck (y + 1)) := by unfold xv_kK; rw [if_pos (show y + xi_off 0 = y from rfl)]
    cases Option.some.inj (he.symm.trans e1)
    have e2 : xw_ct (xg_T G) ad (xw_kd (B + 0)) (B + 0) (xi_g 0) = xv_Ck (y + 1) := by
      rw [hkd]
      show (.inr (1, [.ref (ad (B + 1)), .ref (ad (B + 2)), .ref (ad (B + 33)), .ref (ad (B + 160)), .ref (ad (B + 3)), .int 0, .int 0, .int 0, .int 0]) : va_E) = _
      rw [had 1 (by omega), had 2 (by omega), had 33 (by omega), had 160 (by omega), had 3 (by omega)]
      rfl
    rw [e2]; exact h
  by_cases c1 : r = 1
  · subst c1
    have e1 : xv_kK G (fun _ => none) y (y + 1) 4 8 (y + xi_off 1) = some (xv_Ar G 1 4 (y + 1 + 26) 7 4) := by unfold xv_kK; rw [if_neg (show ¬ y + xi_off 1 = y from (by show ¬ y + 1 = y; omega)), if_pos (show y + xi_off 1 = y + 1 from rfl)]
    cases Option.some.inj (he.symm.trans e1)
    rw [hkd]
    have h2 : H[y + xi_off 1]? = some (arrV (xg_T G 1) 4 (fun j => va_rf (if j < 4 then some (y + 1 + 26 + 7 * j) else none))) := h
    show H[y + xi_off 1]? = some (arrV (xg_T G 1) 4 (fun j => va_rf (some (ad (B + 1 + 4 + 7 * j)))))
    rw [h2]
    refine congrArg some (arrV_congr (fun j hj => ?_))
    rw [if_pos hj, show B + 1 + 4 + 7 * j = B + (5 + 7 * j) by omega, had _ (by omega)]
    unfold xi_off
    rw [if_neg (by omega), if_neg (by omega), if_pos (by omega), show y + 1 + 26 + 7 * j = y + (5 + 7 * j + 22) by omega]
  by_cases c2 : r = 2
  · subst c2
    have e1 : xv_kK G (fun _ => none) y (y + 1) 4 8 (y + xi_off 2) = some (xv_Ar G 2 8 (y + 1 + 54) 15 8) := by unfold xv_kK; rw [if_neg (show ¬ y + xi_off 2 = y from (by show ¬ y + 2 = y; omega)), if_neg (show ¬ y + xi_off 2 = y + 1 from (by show ¬ y + 2 = y + 1; omega)), if_pos (show y + xi_off 2 = y + 1 + 1 from rfl)]
    cases Option.some.inj (he.symm.trans e1)
    rw [hkd]
    have h2 : H[y + xi_off 2]? = some (arrV (xg_T G 2) 8 (fun j => va_rf (if j < 8 then some (y + 1 + 54 + 15 * j) else none))) := h
    show H[y + xi_off 2]? = some (arrV (xg_T G 2) 8 (fun j => va_rf (some (ad (B + 2 + 38 + 15 * j)))))
    rw [h2]
    refine congrArg some (arrV_congr (fun j hj => ?_))
    rw [if_pos hj, show B + 2 + 38 + 15 * j = B + (40 + 15 * j) by omega, had _ (by omega)]
    unfold xi_off xi_fo
    rw [if_neg (by omega), if_neg (by omega), if_neg (by omega), if_neg (by omega), if_pos (by omega), show (40 + 15 * j - 40) / 15 = j by omega, show (40 + 15 * j - 40) % 15 = 0 by omega, if_pos (by omega), show y + 1 + 54 + 15 * j = y + (55 + 15 * j + 0) by omega]
  by_cases c3 : r < 5
  · rw [hkd]
    rcases (show r = 3 ∨ r = 4 by omega) with rfl | rfl
    · have e1 : xv_kK G (fun _ => none) y (y + 1) 4 8 (y + xi_off 3) = some (xv_Qu (y + 1 + 25)) := by
        show xv_kK G (fun _ => none) y (y + 1) 4 8 (y + 25) = _
        unfold xv_kK
        repeat' split
        all_goals first | rfl | omega
      cases Option.some.inj (he.symm.trans e1)
      have e2 : xw_ct (xg_T G) ad (xw_kr 3) (B + 3) (xi_g 3) = xv_Qu (y + 1 + 25) := by
        show (.inr (3, [.ref (ad (B + 3 + 1)), .int 0]) : va_E) = _
        rw [show B + 3 + 1 = B + 4 from rfl, had 4 (by omega)]
        rfl
      rw [e2]; exact h
    · have e1 : xv_kK G (fun _ => none) y (y + 1) 4 8 (y + xi_off 4) = some (xv_I8 G) := by
        show xv_kK G (fun _ => none) y (y + 1) 4 8 (y + 26) = _
        unfold xv_kK
        repeat' split
        all_goals first | rfl | omega
      cases Option.some.inj (he.symm.trans e1)
      exact h
  by_cases c4 : r < 33
  · obtain ⟨c, t, hc, ht, rfl⟩ : ∃ c t, c < 4 ∧ t < 7 ∧ r = 5 + 7 * c + t := ⟨(r - 5) / 7, (r - 5) % 7, by omega, by omega, by omega⟩
    have eo : ∀ t, t < 7 → xi_off (5 + 7 * c + t) = 27 + 7 * c + t := fun t ht => by
      unfold xi_off
      rw [if_neg (by omega), if_neg (by omega), if_pos (by omega)]
      omega
    have e1 : xv_kK G (fun _ => none) y (y + 1) 4 8 (y + xi_off (5 + 7 * c + t)) = some (xv_cB G (y + 27 + 7 * c) t) := by
      rw [eo t ht]
      unfold xv_kK
      rw [if_neg (by omega), if_neg (by omega), if_neg (by omega), if_neg (by omega), if_neg (by omega), if_neg (by omega), if_neg (by omega), if_pos (by omega)]
      rw [show (y + (27 + 7 * c + t) - (y + 1 + 26)) / 7 = c by omega, show (y + (27 + 7 * c + t) - (y + 1 + 26)) % 7 = t by omega, show y + 1 + 26 + 7 * c = y + 27 + 7 * c by omega]
    cases Option.some.inj (he.symm.trans e1)
    have e2 := xi_chan (G := G) (ad := ad) (k0 := B + (5 + 7 * c)) (q := y + 27 + 7 * c) (fun t ht => by rw [Nat.add_assoc, had _ (by omega), eo t ht]; omega) (fun t ht => by
      rw [Nat.add_assoc, hkd2 _ (by omega)]
      unfold xw_kr
      rw [if_neg (by omega), if_neg (by omega), if_neg (by omega), if_neg (by omega), if_neg (by omega), if_pos (by omega), show (5 + 7 * c + t - 5) % 7 = t by omega]) t ht
    have e3 : xi_g (5 + 7 * c + t) = fun _ => 0 := by unfold xi_g; rw [if_pos (by omega)]
    rw [e3, show B + (5 + 7 * c + t) = B + (5 + 7 * c) + t by omega, ← e2]
    exact h
  by_cases c5 : r < 40
  · obtain ⟨t, ht, rfl⟩ : ∃ t, t < 7 ∧ r = 33 + t := ⟨r - 33, by omega, by omega⟩
    have eo : ∀ t, t < 7 → xi_off (33 + t) = 3 + t := fun t ht => by
      unfold xi_off
      rw [if_neg (by omega), if_neg (by omega), if_neg (by omega), if_pos (by omega)]
      omega
    have e1 : xv_kK G (fun _ => none) y (y + 1) 4 8 (y + xi_off (33 + t)) = some (xv_cB G (y + 3) t) := by
      rw [eo t ht]
      unfold xv_kK
      rw [if_neg (by omega), if_neg (by omega), if_neg (by omega), if_pos (by omega)]
      rw [show y + (3 + t) - (y + 1 + 2) = t by omega, show y + 1 + 2 = y + 3 by omega]
    cases Option.some.inj (he.symm.trans e1)
    have e2 := xi_chan (G := G) (ad := ad) (k0 := B + 33) (q := y + 3) (fun t ht => by rw [Nat.add_assoc, had _ (by omega), eo t ht]; omega) (fun t ht => by
      rw [Nat.add_assoc, hkd2 _ (by omega)]
      unfold xw_kr
      rw [if_neg (by omega), if_neg (by omega), if_neg (by omega), if_neg (by omega), if_neg (by omega), if_pos (by omega), show (33 + t - 5) % 7 = t by omega]) t ht
    have e3 : xi_g (33 + t) = fun _ => 0 := by unfold xi_g; rw [if_pos (by omega)]
    rw [e3, show B + (33 + t) = B + 33 + t by omega, ← e2]
    exact h
  have hfo : ∀ t, t < 15 → xi_fo t < 15 := fun t ht => by
    unfold xi_fo
    repeat' split
    all_goals omega
  by_cases c6 : r < 160
  · obtain ⟨f, t, hf, ht, rfl⟩ : ∃ f t, f < 8 ∧ t < 15 ∧ r = 40 + 15 * f + t := ⟨(r - 40) / 15, (r - 40) % 15, by omega, by omega, by omega⟩
    have eo : ∀ t, t < 15 → xi_off (40 + 15 * f + t) = 55 + 15 * f + xi_fo t := fun t ht => by
      unfold xi_off
      rw [if_neg (by omega), if_neg (by omega), if_neg (by omega), if_neg (by omega), if_pos (by omega), show (40 + 15 * f + t - 40) / 15 = f by omega, show (40 + 15 * f + t - 40) % 15 = t by omega]
    have hft := hfo t ht
    have e1 : xv_kK G (fun _ => none) y (y + 1) 4 8 (y + xi_off (40 + 15 * f + t)) = some (xv_fB G (nI f) (y + 55 + 15 * f) (xi_fo t)) := by
      rw [eo t ht]
      unfold xv_kK
      rw [if_neg (by omega), if_neg (by omega), if_neg (by omega), if_neg (by omega), if_neg (by omega), if_neg (by omega), if_neg (by omega), if_neg (by omega), if_pos (by omega)]
      rw [show (y + (55 + 15 * f + xi_fo t) - (y + 1 + 54)) / 15 = f by omega, show (y + (55 + 15 * f + xi_fo t) - (y + 1 + 54)) % 15 = xi_fo t by omega, show y + 1 + 54 + 15 * f = y + 55 + 15 * f by omega]
    cases Option.some.inj (he.symm.trans e1)
    have e2 := xi_fib (G := G) (ad := ad) (k0 := B + (40 + 15 * f)) (q := y + 55 + 15 * f) (x := y + xi_off (40 + 15 * f + t)) (num := nI f) (H := H) (fun t ht => by rw [Nat.add_assoc, had _ (by omega), eo t ht]; omega) (fun t ht => by
      rw [Nat.add_assoc, hkd2 _ (by omega)]
      unfold xw_kr
      rw [if_neg (by omega), if_neg (by omega), if_neg (by omega), if_neg (by omega), if_neg (by omega), if_neg (by omega), show (40 + 15 * f + t - 40) % 15 = t by omega]) t ht h
    have e3 : xi_g (40 + 15 * f + t) = xi_gF (nI f) t := by
      unfold xi_g xi_num
      rw [if_neg (by omega), if_pos (by omega), show (40 + 15 * f + t - 40) / 15 = f by omega, show (40 + 15 * f + t - 40) % 15 = t by omega]
    rw [e3, show B + (40 + 15 * f + t) = B + (40 + 15 * f) + t by omega]
    exact e2
  · obtain ⟨t, ht, rfl⟩ : ∃ t, t < 15 ∧ r = 160 + t := ⟨r - 160, by omega, by omega⟩
    have eo : ∀ t, t < 15 → xi_off (160 + t) = 10 + xi_fo t := fun t ht => by
      unfold xi_off
      rw [if_neg (by omega), if_neg (by omega), if_neg (by omega), if_neg (by omega), if_neg (by omega), show 160 + t - 160 = t by omega]
    have hft := hfo t ht
    have e1 : xv_kK G (fun _ => none) y (y + 1) 4 8 (y + xi_off (160 + t)) = some (xv_fB G (-1) (y + 10) (xi_fo t)) := by
      rw [eo t ht]
      unfold xv_kK
      rw [if_neg (by omega), if_neg (by omega), if_neg (by omega), if_neg (by omega), if_pos (by omega)]
      rw [show y + (10 + xi_fo t) - (y + 1 + 9) = xi_fo t by omega, show y + 1 + 9 = y + 10 by omega]
    cases Option.some.inj (he.symm.trans e1)
    have e2 := xi_fib (G := G) (ad := ad) (k0 := B + 160) (q := y + 10) (x := y + xi_off (160 + t)) (num := -1) (H := H) (fun t ht => by rw [Nat.add_assoc, had _ (by omega), eo t ht]; omega) (fun t ht => by
      rw [Nat.add_assoc, hkd2 _ (by omega)]
      unfold xw_kr
      rw [if_neg (by omega), if_neg (by omega), if_neg (by omega), if_neg (by omega), if_neg (by omega), if_neg (by omega), show (160 + t - 40) % 15 = t by omega]) t ht h
    have e3 : xi_g (160 + t) = xi_gF (-1) t := by
      unfold xi_g xi_num
      rw [if_neg (by omega), if_neg (by omega), show (160 + t - 40) % 15 = t by omega]
    rw [e3, show B + (160 + t) = B + 160 + t by omega]
    exact e2
