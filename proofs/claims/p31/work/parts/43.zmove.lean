section ZM
variable {p : Program} {l : Launch} {e : Env} {R : Room} {s : State} {m : MethodId} {args : Array Value} {below : List Frame} {meth : Method} {c : Code} {G : xw_G} {nL cells slots : Nat} {Q : State → Prop}
variable {cc : ByteArray} {own : String} {pc : Nat} {lv : List (Option Value)} {st : List Value} {Pr : Heap → Prop}
/-- whose child a code is -/
def yz_ch (y : yz_Y) (a b : Nat) : Prop := (yz_kd a = 0 ∧ 1 ≤ b ∧ b ≤ 5) ∨ (yz_kd a = 1 ∧ (b = a + 10 ∨ b = a + 20)) ∨ (yz_kd a = 3 ∧ ∃ i, i < y.2 a ∧ b = 6 + i) ∨ (yz_kd a = 4 ∧ ∃ i, i < y.2 a ∧ b = 10 + i) ∨ (yz_kd a = 5 ∧ ∃ i, i < y.2 a ∧ b = 40 + (12 * (a - 20) + i))
def yz_pa (b : Nat) : Nat := if b < 6 then 0 else if b < 10 then 2 else if b < 18 then 3 else if b < 28 then b - 10 else if b < 38 then b - 20 else 20 + (b - 40) / 12
theorem yz_kd_big {a : Nat} (h : 143 ≤ a) : yz_kd a = 9 := by
  unfold yz_kd
  rw [if_neg (by omega), if_neg (by omega), if_neg (by omega), if_neg (by omega), if_neg (by omega), if_neg (by omega), if_neg (by omega), if_neg (by omega), if_neg (by omega), if_neg (by omega), if_neg (by omega), if_neg (by omega), if_neg (by omega), if_neg (by omega)]
theorem yz_kd_0 {a : Nat} (h : yz_kd a = 0) : a = 0 := by
  rcases Nat.lt_or_ge a 143 with q | q
  · exact (show ∀ a, a < 143 → yz_kd a = 0 → a = 0 by decide +kernel) a q h
  · rw [yz_kd_big q] at h
    omega
theorem yz_kd_1 {a : Nat} (h : yz_kd a = 1) : 10 ≤ a ∧ a < 18 := by
  rcases Nat.lt_or_ge a 143 with q | q
  · exact (show ∀ a, a < 143 → yz_kd a = 1 → 10 ≤ a ∧ a < 18 by decide +kernel) a q h
  · rw [yz_kd_big q] at h
    omega
theorem yz_kd_2 {a : Nat} (h : yz_kd a = 2) : (a = 1 ∨ (4 ≤ a ∧ a < 10) ∨ (30 ≤ a ∧ a < 38) ∨ (40 ≤ a ∧ a < 136) ∨ a = 140 ∨ a = 141) := by
  rcases Nat.lt_or_ge a 143 with q | q
  · exact (show ∀ a, a < 143 → yz_kd a = 2 → (a = 1 ∨ (4 ≤ a ∧ a < 10) ∨ (30 ≤ a ∧ a < 38) ∨ (40 ≤ a ∧ a < 136) ∨ a = 140 ∨ a = 141) by decide +kernel) a q h
  · rw [yz_kd_big q] at h
    omega
theorem yz_kd_3 {a : Nat} (h : yz_kd a = 3) : a = 2 := by
  rcases Nat.lt_or_ge a 143 with q | q
  · exact (show ∀ a, a < 143 → yz_kd a = 3 → a = 2 by decide +kernel) a q h
  · rw [yz_kd_big q] at h
    omega
theorem yz_kd_4 {a : Nat} (h : yz_kd a = 4) : a = 3 := by
  rcases Nat.lt_or_ge a 143 with q | q
  · exact (show ∀ a, a < 143 → yz_kd a = 4 → a = 3 by decide +kernel) a q h
  · rw [yz_kd_big q] at h
    omega
theorem yz_kd_5 {a : Nat} (h : yz_kd a = 5) : 20 ≤ a ∧ a < 28 := by
  rcases Nat.lt_or_ge a 143 with q | q
  · exact (show ∀ a, a < 143 → yz_kd a = 5 → 20 ≤ a ∧ a < 28 by decide +kernel) a q h
  · rw [yz_kd_big q] at h
    omega
theorem yz_kd_6 {a : Nat} (h : yz_kd a = 6) : a = 142 := by
  rcases Nat.lt_or_ge a 143 with q | q
  · exact (show ∀ a, a < 143 → yz_kd a = 6 → a = 142 by decide +kernel) a q h
  · rw [yz_kd_big q] at h
    omega
theorem yz_kdI {a : Nat} (h : (a = 1 ∨ (4 ≤ a ∧ a < 10) ∨ (30 ≤ a ∧ a < 38) ∨ (40 ≤ a ∧ a < 136) ∨ a = 140 ∨ a = 141)) : yz_kd a = 2 := (show ∀ a, a < 143 → (a = 1 ∨ (4 ≤ a ∧ a < 10) ∨ (30 ≤ a ∧ a < 38) ∨ (40 ≤ a ∧ a < 136) ∨ a = 140 ∨ a = 141) → yz_kd a = 2 by decide +kernel) a (by omega) h
theorem yz_kdF {a : Nat} (h : (10 ≤ a ∧ a < 18)) : yz_kd a = 1 := (show ∀ a, a < 143 → (10 ≤ a ∧ a < 18) → yz_kd a = 1 by decide +kernel) a (by omega) h
theorem yz_kdT {a : Nat} (h : (20 ≤ a ∧ a < 28)) : yz_kd a = 5 := (show ∀ a, a < 143 → (20 ≤ a ∧ a < 28) → yz_kd a = 5 by decide +kernel) a (by omega) h
theorem yz_kd_iv (a : Nat) : (yz_kd a = 0 → a = 0) ∧ (yz_kd a = 1 → 10 ≤ a ∧ a < 18) ∧ (yz_kd a = 2 → (a = 1 ∨ (4 ≤ a ∧ a < 10) ∨ (30 ≤ a ∧ a < 38) ∨ (40 ≤ a ∧ a < 136) ∨ a = 140 ∨ a = 141)) ∧ (yz_kd a = 3 → a = 2) ∧ (yz_kd a = 4 → a = 3) ∧ (yz_kd a = 5 → 20 ≤ a ∧ a < 28) ∧ (yz_kd a = 6 → a = 142) := ⟨yz_kd_0, yz_kd_1, yz_kd_2, yz_kd_3, yz_kd_4, yz_kd_5, yz_kd_6⟩
theorem yz_pa_b {i : Nat} (hi : i < 8) : yz_pa (30 + i) = 10 + i := by
  unfold yz_pa
  rw [if_neg (by omega), if_neg (by omega), if_neg (by omega), if_neg (by omega), if_pos (by omega)]
  omega
theorem yz_pa_d {i : Nat} (hi : i < 4) : yz_pa (6 + i) = 2 := by
  unfold yz_pa
  rw [if_neg (by omega), if_pos (by omega)]
theorem yz_pa_of {y : yz_Y} {a b : Nat} (hb : yz_bd y) (h : yz_ch y a b) : yz_pa b = a := by
  obtain ⟨b1, b2, b3⟩ := hb
  obtain ⟨k0, k1, k2, k3, k4, k5, -⟩ := yz_kd_iv a
  unfold yz_pa
  rcases h with ⟨h, h1, h2⟩ | ⟨h, h1⟩ | ⟨h, i, h1, h2⟩ | ⟨h, i, h1, h2⟩ | ⟨h, i, h1, h2⟩
  · have := k0 h
    rw [if_pos (by omega)]; omega
  · have := k1 h
    rcases h1 with h1 | h1
    · rw [if_neg (by omega), if_neg (by omega), if_neg (by omega), if_pos (by omega)]; omega
    · rw [if_neg (by omega), if_neg (by omega), if_neg (by omega), if_neg (by omega), if_pos (by omega)]; omega
  · have := k3 h
    subst this
    rw [if_neg (by omega), if_pos (by omega)]
  · have := k4 h
    subst this
    rw [if_neg (by omega), if_neg (by omega), if_pos (by omega)]
  · have h9 := k5 h
    have h8 := b3 (a - 20) (by omega)
    rw [show 20 + (a - 20) = a by omega] at h8
    rw [if_neg (by omega), if_neg (by omega), if_neg (by omega), if_neg (by omega), if_neg (by omega)]
    omega
theorem yz_ct_cg {x a : Nat} {yd yd' : Nat → Nat} {y y' : yz_Y} {H : Heap} (h1 : y'.1 a = y.1 a) (h2 : y'.2 a = y.2 a) (hc : ∀ b, yz_ch y a b → yd' b = yd b) (h : va_at (xg_D G) vwCl (x, yz_ct (xg_T G) yd y a) H) : va_at (xg_D G) vwCl (x, yz_ct (xg_T G) yd' y' a) H := by
  unfold yz_ct at h ⊢
  by_cases e0 : yz_kd a = 0
  · rw [if_pos e0] at h ⊢
    rw [h1, hc 1 (Or.inl ⟨e0, by omega, by omega⟩), hc 2 (Or.inl ⟨e0, by omega, by omega⟩), hc 3 (Or.inl ⟨e0, by omega, by omega⟩), hc 4 (Or.inl ⟨e0, by omega, by omega⟩), hc 5 (Or.inl ⟨e0, by omega, by omega⟩)]
    exact h
  rw [if_neg e0] at h ⊢
  by_cases e1 : yz_kd a = 1
  · rw [if_pos e1] at h ⊢
    rw [h1, hc (a + 10) (Or.inr (Or.inl ⟨e1, Or.inl rfl⟩)), hc (a + 20) (Or.inr (Or.inl ⟨e1, Or.inr rfl⟩))]
    exact h
  rw [if_neg e1] at h ⊢
  by_cases e2 : yz_kd a = 2
  · rw [if_pos e2] at h ⊢
    rw [h1, h2]
    exact h
  rw [if_neg e2] at h ⊢
  by_cases e3 : yz_kd a = 3
  · rw [if_pos e3] at h ⊢
    have h9 : H[x]? = some (arrV (xg_T G 5) (y.2 a) (fun j => va_rf (some (yd (6 + j))))) := h
    show H[x]? = some (arrV (xg_T G 5) (y'.2 a) (fun j => va_rf (some (yd' (6 + j)))))
    rw [h9, h2]
    exact congrArg some (arrV_congr (fun j hj => by rw [hc (6 + j) (Or.inr (Or.inr (Or.inl ⟨e3, j, hj, rfl⟩)))]))
  rw [if_neg e3] at h ⊢
  by_cases e4 : yz_kd a = 4
  · rw [if_pos e4] at h ⊢
    have h9 : H[x]? = some (arrV (xg_T G 6) (y.2 a) (fun j => va_rf (some (yd (10 + j))))) := h
    show H[x]? = some (arrV (xg_T G 6) (y'.2 a) (fun j => va_rf (some (yd' (10 + j)))))
    rw [h9, h2]
    exact congrArg some (arrV_congr (fun j hj => by rw [hc (10 + j) (Or.inr (Or.inr (Or.inr (Or.inl ⟨e4, j, hj, rfl⟩))))]))
  rw [if_neg e4] at h ⊢
  by_cases e5 : yz_kd a = 5
  · rw [if_pos e5] at h ⊢
    have h9 : H[x]? = some (arrV (xg_T G 5) (y.2 a) (fun j => va_rf (some (yd (40 + (12 * (a - 20) + j)))))) := h
    show H[x]? = some (arrV (xg_T G 5) (y'.2 a) (fun j => va_rf (some (yd' (40 + (12 * (a - 20) + j))))))
    rw [h9, h2]
    exact congrArg some (arrV_congr (fun j hj => by rw [hc (40 + (12 * (a - 20) + j)) (Or.inr (Or.inr (Or.inr (Or.inr ⟨e5, j, hj, rfl⟩))))]))
  rw [if_neg e5] at h ⊢
  rw [h1, h2]
  exact h
/-- another row of ints stands for the code k, at x -/
def yz_mv (y : yz_Y) (k n : Nat) (g : Nat → Int32) : yz_Y := (fun a => if a = k then g else y.1 a, fun a => if a = k then n else y.2 a)
def yz_ud (yd : Nat → Nat) (k x : Nat) : Nat → Nat := fun i => if i = k then x else yd i
theorem yz_ex_mv {y : yz_Y} {k n a : Nat} {g : Nat → Int32} (hk : yz_kd k = 2) : yz_ex (yz_mv y k n g) a = yz_ex y a := by
  have h2 := (yz_kd_iv k).2.2.1 hk
  have e : ∀ i, (i = 2 ∨ i = 3 ∨ (20 ≤ i ∧ i < 28) ∨ 146 ≤ i) → (yz_mv y k n g).2 i = y.2 i := fun i hi => if_neg (by omega)
  unfold yz_ex
  by_cases a6 : a < 6
  · rw [if_pos a6, if_pos a6]
  rw [if_neg a6, if_neg a6]
  by_cases a10 : a < 10
  · rw [if_pos a10, if_pos a10, e 2 (by omega)]
  rw [if_neg a10, if_neg a10, e 3 (by omega)]
  by_cases a18 : a < 18
  · rw [if_pos a18, if_pos a18]
  rw [if_neg a18, if_neg a18]
  by_cases a28 : a < 28
  · rw [if_pos a28, if_pos a28]
  rw [if_neg a28, if_neg a28]
  by_cases a38 : a < 38
  · rw [if_pos a38, if_pos a38]
  rw [if_neg a38, if_neg a38]
  by_cases a136 : a < 136
  · rw [if_pos a136, if_pos a136, e (20 + (a - 40) / 12) (by omega)]
  rw [if_neg a136, if_neg a136, e (a + 10) (by omega)]
theorem yz_on_mv {y : yz_Y} {k n a : Nat} {g : Nat → Int32} (hk : yz_kd k = 2) : yz_on (yz_mv y k n g) a ↔ yz_on y a := by
  unfold yz_on
  rw [yz_ex_mv hk]
/-- a world, and a row of ints beside it -/
def yz_N (G : xw_G) (Ch : Nat → Prop) (y0 yd : Nat → Nat) (h : xw_M) (y : yz_Y) (x n : Nat) (g : Nat → Int32) (H : Heap) : Prop := yz_W G Ch y0 yd h y H ∧ zI G x n g H ∧ xg_z G ≤ x ∧ (∀ i, yz_on y i → yd i ≠ x) ∧ ∀ i, i < xg_N G → xg_ad G i ≠ x
theorem yz_W.kept {Ch : Nat → Prop} {y0 yd : Nat → Nat} {h : xw_M} {y : yz_Y} {H H1 : Heap} (hW : yz_W G Ch y0 yd h y H) (hq : ∀ q : Nat, q < H.size → H1[q]? = H[q]?) : yz_W G Ch y0 yd h y H1 :=
  ⟨va_P.kept hW.1 (fun a q hk => by obtain ⟨g1, rfl⟩ := xw_at hk; exact hq _ (xw_adlt hW.1 g1)), fun k hk => (hW.2.1 k hk).kept (hq _ (yz_lt hW hk)), hW.2.2.1, hW.2.2.2⟩
theorem yz_N.mk {Ch : Nat → Prop} {y0 yd : Nat → Nat} {h : xw_M} {y : yz_Y} {x n : Nat} {g : Nat → Int32} {H H1 : Heap} (hz : xg_z G ≤ H.size) (hW : yz_W G Ch y0 yd h y H) (hx : H.size ≤ x) (hq : ∀ q : Nat, q < H.size → H1[q]? = H[q]?) (hI : zI G x n g H1) : yz_N G Ch y0 yd h y x n g H1 :=
  ⟨hW.kept hq, hI, Nat.le_trans hz hx, fun i hi => Nat.ne_of_lt (Nat.lt_of_lt_of_le (yz_lt hW hi) hx), fun i hi => Nat.ne_of_lt (Nat.lt_of_lt_of_le (xw_adlt hW.1 hi) hx)⟩
theorem yz_N.mv {Ch : Nat → Prop} {y0 yd : Nat → Nat} {h : xw_M} {y : yz_Y} {x n k o : Nat} {g : Nat → Int32} {H H1 : Heap} (hN : yz_N G Ch y0 yd h y x n g H) (hk2 : yz_kd k = 2) (hko : yz_pa k = o) (ho : yz_on y o) (hCh : Ch k) (oq : ∀ q : Nat, q ≠ yd o → H1[q]? = H[q]?) (he : va_at (xg_D G) vwCl (yd o, yz_ct (xg_T G) (yz_ud yd k x) (yz_mv y k n g) o) H1) : yz_W G Ch y0 (yz_ud yd k x) h (yz_mv y k n g) H1 := by
  obtain ⟨⟨w1, w2, w3, w4⟩, hx, hz, f1, f2⟩ := hN
  have hxo : x ≠ yd o := fun z => f1 o ho z.symm
  have hon : ∀ a, yz_on (yz_mv y k n g) a → yz_on y a := fun a h => (yz_on_mv hk2).mp h
  have ud : ∀ a, a ≠ k → yz_ud yd k x a = yd a := fun a ha => if_neg ha
  refine ⟨va_P.kept w1 (fun a q hq => ?_), fun a ha => ?_, ⟨fun i j hi hj hij => ?_, fun i hi => ?_, fun i j hi hj => ?_, ?_⟩, fun a ha => ?_⟩
  · obtain ⟨g1, rfl⟩ := xw_at hq
    exact oq _ (fun z => w3.2.2.1 o a ho g1 z.symm)
  · have ha' := hon a ha
    by_cases e1 : a = k
    · subst e1
      show va_at (xg_D G) vwCl (yz_ud yd a x a, yz_ct (xg_T G) (yz_ud yd a x) (yz_mv y a n g) a) H1
      rw [yz_ct2 hk2, show yz_ud yd a x a = x from if_pos rfl, show (yz_mv y a n g).1 a = g from if_pos rfl, show (yz_mv y a n g).2 a = n from if_pos rfl]
      exact hx.kept (oq x hxo)
    · rw [ud a e1]
      by_cases e2 : a = o
      · rw [e2]; exact he
      · refine yz_ct_cg (y := y) (yd := yd) (if_neg e1) (if_neg e1) (fun b hb => ud b (fun z => e2 ?_)) ((w2 a ha').kept (oq _ (fun z => e2 (w3.1 a o ha' ho z))))
        rw [← yz_pa_of w3.2.2.2 hb, z, hko]
  · have hi' := hon i hi
    have hj' := hon j hj
    by_cases e1 : i = k <;> by_cases e2 : j = k
    · omega
    · rw [ud j e2, e1, show yz_ud yd k x k = x from if_pos rfl] at hij
      exact absurd hij.symm (f1 j hj')
    · rw [ud i e1, e2, show yz_ud yd k x k = x from if_pos rfl] at hij
      exact absurd hij (f1 i hi')
    · rw [ud i e1, ud j e2] at hij
      exact w3.1 i j hi' hj' hij
  · by_cases e1 : i = k
    · rw [e1, show yz_ud yd k x k = x from if_pos rfl]; exact hz
    · rw [ud i e1]; exact w3.2.1 i (hon i hi)
  · by_cases e1 : i = k
    · rw [e1, show yz_ud yd k x k = x from if_pos rfl]; exact fun z => f2 j hj z.symm
    · rw [ud i e1]; exact w3.2.2.1 i j (hon i hi) hj
  · obtain ⟨b1, b2, b3⟩ := w3.2.2.2
    have h2 := (yz_kd_iv k).2.2.1 hk2
    have e : ∀ i, (i = 2 ∨ i = 3 ∨ (20 ≤ i ∧ i < 28)) → (yz_mv y k n g).2 i = y.2 i := fun i hi => if_neg (by omega)
    exact ⟨by rw [e 2 (by omega)]; exact b1, by rw [e 3 (by omega)]; exact b2, fun f hf => by rw [e (20 + f) (by omega)]; exact b3 f hf⟩
  · rw [ud a (fun z => ha (z ▸ hCh))]
    exact w4 a ha
def zw_pr (κ j : Nat) : Prop := ∃ r : vw_C, vwCl[κ]? = some r ∧ (r.2.1 j).2.2.2 = false ∧ parseFieldDescriptor (r.2.1 j).2.2.1 = some (.array .int)
/-- it is put into a field of the Sim -/
theorem zr_mvS (C : zj_C p s m args meth c G own cc nL) {Ch : Nat → Prop} {y0 yd : Nat → Nat} {h : xw_M} {y : yz_Y} {x n k j idx : Nat} {g : Nat → Int32} (hkj : (k = 1 ∧ j = 2) ∨ (k = 4 ∧ j = 5) ∨ (k = 5 ∧ j = 6)) (hCh : Ch k) (F : xw_fl own idx 7 j) (hp : zw_pr 7 j) (d : decode cc pc = .ok (.putfield idx, 3)) (K : zj_X p l e R s m args below meth c G nL cells slots Q (yz_W G Ch y0 (yz_ud yd (k) x) h (yz_mv y (k) n g)) lv (pc + 3) st) : zj_X p l e R s m args below meth c G nL cells slots Q (yz_N G Ch y0 yd h y x n g) lv pc (.ref x :: .ref (yd 0) :: st) := by
  refine zr_putO C (v := .ref x) (fun H hP => ⟨hP.1.2.1 0 (yz_on0 (by decide)), yz_B hP.1 (yz_on0 (by decide))⟩) F hp rfl rfl (by show j < 7; omega) (fun H H1 hP h1 h2 h3 => hP.mv (k := k) (o := 0) (by rcases hkj with ⟨rfl, rfl⟩ | ⟨rfl, rfl⟩ | ⟨rfl, rfl⟩ <;> decide) (by rcases hkj with ⟨rfl, rfl⟩ | ⟨rfl, rfl⟩ | ⟨rfl, rfl⟩ <;> decide) (yz_on0 (by decide)) hCh h2 ?_) d K
  rcases hkj with ⟨rfl, rfl⟩ | ⟨rfl, rfl⟩ | ⟨rfl, rfl⟩ <;> exact h3
/-- into a fiber's backs -/
theorem zr_mvF (C : zj_C p s m args meth c G own cc nL) {Ch : Nat → Prop} {y0 yd : Nat → Nat} {h : xw_M} {y : yz_Y} {x n i idx : Nat} {g : Nat → Int32} (hCh : Ch (30 + i)) (F : xw_fl own idx 6 1) (hp : zw_pr 6 1) (d : decode cc pc = .ok (.putfield idx, 3)) (hx : yz_is y (10 + i) 1 = true) (K : zj_X p l e R s m args below meth c G nL cells slots Q (yz_W G Ch y0 (yz_ud yd (30 + i) x) h (yz_mv y (30 + i) n g)) lv (pc + 3) st) : zj_X p l e R s m args below meth c G nL cells slots Q (yz_N G Ch y0 yd h y x n g) lv pc (.ref x :: .ref (yd (10 + i)) :: st) := by
  have h1 := yz_is_on hx (by decide)
  have hi := (yz_kd_iv (10 + i)).2.1 h1.2
  refine zr_putO C (v := .ref x) (fun H hP => ⟨by have h2 := hP.1.2.1 _ h1.1; rw [yz_ct1 h1.2] at h2; exact h2, yz_B hP.1 h1.1⟩) F hp rfl rfl (by show 1 < 8; omega) (fun H H1 hP e1 h2 h3 => hP.mv (k := 30 + i) (o := 10 + i) (yz_kdI (by omega)) (yz_pa_b (by omega)) h1.1 hCh h2 ?_) d K
  rw [yz_ct1 h1.2, show yz_ud yd (30 + i) x (20 + i) = yd (20 + i) from if_neg (by omega), show yz_ud yd (30 + i) x (30 + i) = x from if_pos rfl, show (yz_mv y (30 + i) n g).1 (10 + i) = y.1 (10 + i) from if_neg (by omega)]
  exact h3
theorem zv_asg (vm : Vm) (a : ClassId) : vm.assignable a a = true := by
  show vm.assignableAux (255 + 1) a a = true
  rw [Vm.assignableAux]
  simp only [beq_self_eq_true, Bool.true_or]
/-- into the row of drops -/
theorem zr_mvD (C : zj_C p s m args meth c G own cc nL) {Ch : Nat → Prop} {y0 yd : Nat → Nat} {h : xw_M} {y : yz_Y} {x n : Nat} {i : Int32} {g : Nat → Int32} (hCh : ∀ j, 6 ≤ j → j < 10 → Ch j) (hin : xo_ix i (y.2 2) = true) (d : decode cc pc = .ok (.aastore, 1)) (K : zj_X p l e R s m args below meth c G nL cells slots Q (yz_W G Ch y0 (yz_ud yd (6 + i.toNatClampNeg) x) h (yz_mv y (6 + i.toNatClampNeg) n g)) lv (pc + 1) st) : zj_X p l e R s m args below meth c G nL cells slots Q (yz_N G Ch y0 yd h y x n g) lv pc (.ref x :: .int i :: .ref (yd 2) :: st) := by
  intro H locs ls hP hS hL
  have hlt : i.toNatClampNeg < y.2 2 := xo_ix_lt hin
  have h0 : ¬ i < 0 := fun q => xo_ix_in hin (Or.inl q)
  have hb : y.2 2 ≤ 4 := hP.1.2.2.1.2.2.2.1
  have hcell := hP.1.2.1 2 (yz_on0 (by decide))
  have hc2 : H[yd 2]? = some (arrV (xg_T G 5) (y.2 2) (fun j => va_rf (some (yd (6 + j))))) := hcell
  have hx : H[x]? = some (arrV (xg_T G 0) n (fun j => .int (g j))) := hP.2.1
  obtain ⟨comp, cA, kA, a1, -, a3, a4, a5⟩ := arrayOverA_spec (zv_AA.use (A := args) C.2.2.2.2.2.2.2.2.1.2.2.2.2.2)
  have t5 : s.vm.findClass ("[" ++ (FieldType.array .int).toString) = some (xg_T G 5) := (C.2.2.2.2.2.1.2 5 _ (show (xw_tys G)[5]? = some (xg_T G 5, .array .int) from rfl)).2
  have t0 : s.vm.findClass ("[" ++ FieldType.int.toString) = some (xg_T G 0) := (C.2.2.2.2.2.1.2 0 _ (show (xw_tys G)[0]? = some (xg_T G 0, .int) from rfl)).2
  have hcA : cA = xg_T G 5 := Option.some.inj (a5.symm.trans t5)
  have hcomp : comp = xg_T G 0 := Option.some.inj (a1.symm.trans t0)
  subst hcA
  obtain ⟨kc, hkc, -⟩ := Vm.findClass_spec a1
  refine W.aast C.1 C.2.1 hc2 (fun q h => by cases h) (fun h => by cases h) a3 a4 rfl hkc ⟨h0, by show _ < (arrV _ _ _).slots.size; rw [arrV_size]; exact hlt⟩ hx (fun q h => by cases h) (by rw [hcomp] at hkc; exact hkc) (by show s.vm.assignable (xg_T G 0) comp = true; rw [hcomp]; exact zv_asg _ _) rfl rfl d fun H1 e z oq => ?_
  refine K H1 _ ls (hP.mv (k := 6 + i.toNatClampNeg) (o := 2) (yz_kdI (by omega)) (yz_pa_d (by omega)) (yz_on0 (by decide)) (hCh _ (by omega) (by omega)) oq ?_) (hS.put z oq (yz_B hP.1 (yz_on0 (by decide)))) hL
  show H1[yd 2]? = some (arrV (xg_T G 5) ((yz_mv y (6 + i.toNatClampNeg) n g).2 2) (fun j => va_rf (some (yz_ud yd (6 + i.toNatClampNeg) x (6 + j)))))
  rw [e, show (yz_mv y (6 + i.toNatClampNeg) n g).2 2 = y.2 2 from if_neg (by omega)]
  rw [arrV_store]
  congr 2
  funext j
  unfold yz_ud
  by_cases hj : j = i.toNatClampNeg
  · subst hj
    simp [updV, va_rf]
  · rw [if_neg (by omega)]
    simp [updV, hj]
theorem xo_ix_nI {i : Int32} {n : Nat} (h : xo_ix i n = true) : nI i.toNatClampNeg = i := by
  unfold xo_ix at h
  rw [Bool.and_eq_true, decide_eq_true_eq, decide_eq_true_eq] at h
  have h3 := i.toInt_lt
  have h2 : i.toNatClampNeg < 2 ^ 31 := by show i.toInt.toNat < _; omega
  apply Int32.toInt_inj.mp
  rw [nI_toInt h2]
  show ((i.toInt.toNat : Nat) : Int) = i.toInt
  omega
theorem zr_sz (C : zj_C p s m args meth c G own cc nL) (K : zj_X p l e R s m args below meth c G nL cells slots Q (fun H => xg_z G ≤ H.size ∧ Pr H) lv pc st) : zj_X p l e R s m args below meth c G nL cells slots Q Pr lv pc st := fun H locs ls hP hS hL => K H locs ls ⟨Nat.le_trans C.2.2.2.2.2.2.2.2.2.2.1 hS.1, hP⟩ hS hL
/-- with, called -/
theorem zr_with (C : zj_C p s m args meth c G own cc nL) {Ch : Nat → Prop} {y0 yd : Nat → Nat} {h : xw_M} {y : yz_Y} {k idx : Nat} {v : Int32} (hc : xw_cs own idx yX7_with cX7_with 4 (some (.array .int)) 2) (hx : (yz_is y k 2 && decide (y.2 k ≤ 12)) = true) (hR : 1 ≤ R.frames ∧ 23 ≤ R.locals) (hst : (st.map fun v => v.category).sum ≤ 8) (hcs : cells + 1 ≤ R.cells ∧ slots + 13 ≤ R.slots) (d : decode cc pc = .ok (.invokestatic idx, 3)) (K : ∀ x : Nat, zj_X p l e R s m args below meth c G nL (cells + 1) (slots + 13) Q (yz_N G Ch y0 yd h y x (y.2 k + 1) (upd (y.1 k) (y.2 k) v)) lv (pc + 3) (.ref x :: st)) : zj_X p l e R s m args below meth c G nL cells slots Q (yz_W G Ch y0 yd h y) lv pc (.int v :: .ref (yd k) :: st) := by
  have hx2 := (Bool.and_eq_true _ _).mp hx
  have h1 := yz_is_on hx2.1 (by decide)
  have hn : y.2 k ≤ 12 := of_decide_eq_true hx2.2
  refine zr_sz C ?_
  refine zr_goS (As := [.ref (yd k), .int v]) C hc (zc_with l G (a := yd k) (n := y.2 k) (g := y.1 k) (v := v) hn) (fun H hP => by have h2 := hP.2.2.1 _ h1.1; rw [yz_ct2 h1.2] at h2; exact h2) rfl ⟨by omega, by omega⟩ hst hcs d (fun rv => ?_)
  refine zr_pure (φ := ∃ x, rv = some (.ref x)) (fun H h => by obtain ⟨H0, -, x, h3, -⟩ := h; exact ⟨x, h3⟩) (fun h => ?_)
  obtain ⟨x, rfl⟩ := h
  refine zr_eqH (fun H h => ?_) (K x)
  obtain ⟨H0, ⟨hz, hW⟩, x', h3, h4, h5, h6⟩ := h
  cases h3
  exact yz_N.mk hz hW h4 h5 h6
theorem zr_without (C : zj_C p s m args meth c G own cc nL) {Ch : Nat → Prop} {y0 yd : Nat → Nat} {h : xw_M} {y : yz_Y} {k idx : Nat} {i : Int32} (hc : xw_cs own idx yX7_without cX7_without 4 (some (.array .int)) 2) (hx : (yz_is y k 2 && decide (y.2 k ≤ 13) && xo_ix i (y.2 k)) = true) (hR : 1 ≤ R.frames ∧ 23 ≤ R.locals) (hst : (st.map fun v => v.category).sum ≤ 8) (hcs : cells + 1 ≤ R.cells ∧ slots + 13 ≤ R.slots) (d : decode cc pc = .ok (.invokestatic idx, 3)) (K : ∀ x : Nat, zj_X p l e R s m args below meth c G nL (cells + 1) (slots + 13) Q (yz_N G Ch y0 yd h y x (y.2 k - 1) (fun j => if j < i.toNatClampNeg then y.1 k j else y.1 k (j + 1))) lv (pc + 3) (.ref x :: st)) : zj_X p l e R s m args below meth c G nL cells slots Q (yz_W G Ch y0 yd h y) lv pc (.int i :: .ref (yd k) :: st) := by
  have hx3 := (Bool.and_eq_true _ _).mp hx
  have hx2 := (Bool.and_eq_true _ _).mp hx3.1
  have h1 := yz_is_on hx2.1 (by decide)
  have hn : y.2 k ≤ 13 := of_decide_eq_true hx2.2
  have hlt := xo_ix_lt hx3.2
  obtain ⟨n, hn1⟩ : ∃ n, y.2 k = n + 1 := ⟨y.2 k - 1, by omega⟩
  have hi := xo_ix_nI hx3.2
  refine zr_sz C ?_
  refine zr_goS (As := [.ref (yd k), .int i]) C hc (by rw [← hi]; exact zc_without l G (a := yd k) (n := n) (b := i.toNatClampNeg) (g := y.1 k) (by omega) (by omega)) (fun H hP => by have h2 := hP.2.2.1 _ h1.1; rw [yz_ct2 h1.2, hn1] at h2; exact h2) rfl ⟨by omega, by omega⟩ hst hcs d (fun rv => ?_)
  refine zr_pure (φ := ∃ x, rv = some (.ref x)) (fun H h => by obtain ⟨H0, -, x, h3, -⟩ := h; exact ⟨x, h3⟩) (fun h => ?_)
  obtain ⟨x, rfl⟩ := h
  refine zr_eqH (fun H h => ?_) (K x)
  obtain ⟨H0, ⟨hz, hW⟩, x', h3, h4, h5, h6⟩ := h
  cases h3
  rw [hn1]
  exact yz_N.mk hz hW h4 h5 h6
end ZM

/-- a row of ints, one longer, or one shorter -/
def yz_app (y : yz_Y) (k : Nat) (v : Int32) : yz_Y := yz_mv y k (y.2 k + 1) (upd (y.1 k) (y.2 k) v)
def yz_rem (y : yz_Y) (k : Nat) (i : Int32) : yz_Y := yz_mv y k (y.2 k - 1) (fun j => if j < i.toNatClampNeg then y.1 k j else y.1 k (j + 1))
abbrev zCh (lo hi : Nat) : Nat → Prop := fun k => lo ≤ k ∧ k ≤ hi

section ZO
variable {p : Program} {l : Launch} {e : Env} {R : Room} {s : State} {m : MethodId} {args : Array Value} {below : List Frame} {meth : Method} {c : Code} {G : xw_G} {nL cells slots : Nat} {Q : State → Prop}
variable {cc : ByteArray} {own : String} {pc : Nat} {lv : List (Option Value)} {st : List Value} {Pr : Heap → Prop}
theorem zr_withS (C : zj_C p s m args meth c G own cc nL) {Ch : Nat → Prop} {y0 yd : Nat → Nat} {h : xw_M} {y : yz_Y} {k j idx ip : Nat} {v : Int32} (hkj : (k = 1 ∧ j = 2) ∨ (k = 4 ∧ j = 5) ∨ (k = 5 ∧ j = 6)) (hCh : Ch k) (hc : xw_cs own idx yX7_with cX7_with 4 (some (.array .int)) 2) (F : xw_fl own ip 7 j) (hp : zw_pr 7 j) (hR9 : 1 ≤ R.frames ∧ 23 ≤ R.locals) (hst : (st.map fun v => v.category).sum ≤ 7) (hcs : cells + 1 ≤ R.cells ∧ slots + 13 ≤ R.slots) (d1 : decode cc pc = .ok (.invokestatic idx, 3)) (d2 : decode cc (pc + 3) = .ok (.putfield ip, 3)) {α : Type} {f : yz_Y → Option α} {q : α} (hR : (if (yz_is y k 2 && decide (y.2 k ≤ 12)) = true then xo_let (yz_app y k v) f else none) = some q) (K : ∀ y1 : yz_Y, f y1 = some q → ∀ yd' : Nat → Nat, (∀ i, i ≠ k → yd' i = yd i) → zj_X p l e R s m args below meth c G nL (cells + 1) (slots + 13) Q (yz_W G Ch y0 yd' h y1) lv (pc + 6) st) : zj_X p l e R s m args below meth c G nL cells slots Q (yz_W G Ch y0 yd h y) lv pc (.int v :: .ref (yd k) :: .ref (yd 0) :: st) := by
  by_cases hx : (yz_is y k 2 && decide (y.2 k ≤ 12)) = true
  · rw [if_pos hx] at hR
    refine zr_with C hc hx hR9 (by rw [List.map_cons, List.sum_cons]; show 1 + (List.map (fun v => v.category) st).sum ≤ 8; omega) hcs d1 (fun x => ?_)
    exact zr_mvS C hkj hCh F hp d2 (K _ hR _ (fun i hi => if_neg hi))
  · rw [if_neg hx] at hR; cases hR
theorem zr_withD (C : zj_C p s m args meth c G own cc nL) {Ch : Nat → Prop} {y0 yd : Nat → Nat} {h : xw_M} {y : yz_Y} {idx : Nat} {v i : Int32} (hCh : ∀ j, 6 ≤ j → j < 10 → Ch j) (hc : xw_cs own idx yX7_with cX7_with 4 (some (.array .int)) 2) (hR9 : 1 ≤ R.frames ∧ 23 ≤ R.locals) (hst : (st.map fun v => v.category).sum ≤ 6) (hcs : cells + 1 ≤ R.cells ∧ slots + 13 ≤ R.slots) (d1 : decode cc pc = .ok (.invokestatic idx, 3)) (d2 : decode cc (pc + 3) = .ok (.aastore, 1)) {α : Type} {f : yz_Y → Option α} {q : α} (hR : (if (xo_ix i (y.2 2) && (yz_is y (6 + i.toNatClampNeg) 2 && decide (y.2 (6 + i.toNatClampNeg) ≤ 12))) = true then xo_let (yz_app y (6 + i.toNatClampNeg) v) f else none) = some q) (K : ∀ y1 : yz_Y, f y1 = some q → ∀ yd' : Nat → Nat, (∀ j, (j < 6 ∨ 10 ≤ j) → yd' j = yd j) → zj_X p l e R s m args below meth c G nL (cells + 1) (slots + 13) Q (yz_W G Ch y0 yd' h y1) lv (pc + 4) st) : zj_X p l e R s m args below meth c G nL cells slots Q (yz_W G Ch y0 yd h y) lv pc (.int v :: .ref (yd (6 + i.toNatClampNeg)) :: .int i :: .ref (yd 2) :: st) := by
  by_cases hx0 : (xo_ix i (y.2 2) && (yz_is y (6 + i.toNatClampNeg) 2 && decide (y.2 (6 + i.toNatClampNeg) ≤ 12))) = true
  · rw [if_pos hx0] at hR
    have hx9 := (Bool.and_eq_true _ _).mp hx0
    have hlt9 := xo_ix_lt hx9.1
    refine zr_pure (φ := y.2 2 ≤ 4) (fun H hP => hP.2.2.1.2.2.2.1) (fun hb9 => ?_)
    refine zr_with C hc hx9.2 hR9 (by rw [List.map_cons, List.sum_cons, List.map_cons, List.sum_cons]; show 1 + (1 + (List.map (fun v => v.category) st).sum) ≤ 8; omega) hcs d1 (fun x => ?_)
    exact zr_mvD C hCh hx9.1 d2 (K _ hR _ (fun j hj => if_neg (by omega)))
  · rw [if_neg hx0] at hR; cases hR
theorem zr_withoutS (C : zj_C p s m args meth c G own cc nL) {Ch : Nat → Prop} {y0 yd : Nat → Nat} {h : xw_M} {y : yz_Y} {k j idx ip : Nat} {v : Int32} (hkj : (k = 1 ∧ j = 2) ∨ (k = 4 ∧ j = 5) ∨ (k = 5 ∧ j = 6)) (hCh : Ch k) (hc : xw_cs own idx yX7_without cX7_without 4 (some (.array .int)) 2) (F : xw_fl own ip 7 j) (hp : zw_pr 7 j) (hR9 : 1 ≤ R.frames ∧ 23 ≤ R.locals) (hst : (st.map fun v => v.category).sum ≤ 7) (hcs : cells + 1 ≤ R.cells ∧ slots + 13 ≤ R.slots) (d1 : decode cc pc = .ok (.invokestatic idx, 3)) (d2 : decode cc (pc + 3) = .ok (.putfield ip, 3)) {α : Type} {f : yz_Y → Option α} {q : α} (hR : (if (yz_is y k 2 && decide (y.2 k ≤ 13) && xo_ix v (y.2 k)) = true then xo_let (yz_rem y k v) f else none) = some q) (K : ∀ y1 : yz_Y, f y1 = some q → ∀ yd' : Nat → Nat, (∀ i, i ≠ k → yd' i = yd i) → zj_X p l e R s m args below meth c G nL (cells + 1) (slots + 13) Q (yz_W G Ch y0 yd' h y1) lv (pc + 6) st) : zj_X p l e R s m args below meth c G nL cells slots Q (yz_W G Ch y0 yd h y) lv pc (.int v :: .ref (yd k) :: .ref (yd 0) :: st) := by
  by_cases hx : (yz_is y k 2 && decide (y.2 k ≤ 13) && xo_ix v (y.2 k)) = true
  · rw [if_pos hx] at hR
    refine zr_without C hc hx hR9 (by rw [List.map_cons, List.sum_cons]; show 1 + (List.map (fun v => v.category) st).sum ≤ 8; omega) hcs d1 (fun x => ?_)
    exact zr_mvS C hkj hCh F hp d2 (K _ hR _ (fun i hi => if_neg hi))
  · rw [if_neg hx] at hR; cases hR
theorem zr_withoutD (C : zj_C p s m args meth c G own cc nL) {Ch : Nat → Prop} {y0 yd : Nat → Nat} {h : xw_M} {y : yz_Y} {idx : Nat} {v i : Int32} (hCh : ∀ j, 6 ≤ j → j < 10 → Ch j) (hc : xw_cs own idx yX7_without cX7_without 4 (some (.array .int)) 2) (hR9 : 1 ≤ R.frames ∧ 23 ≤ R.locals) (hst : (st.map fun v => v.category).sum ≤ 6) (hcs : cells + 1 ≤ R.cells ∧ slots + 13 ≤ R.slots) (d1 : decode cc pc = .ok (.invokestatic idx, 3)) (d2 : decode cc (pc + 3) = .ok (.aastore, 1)) {α : Type} {f : yz_Y → Option α} {q : α} (hR : (if (xo_ix i (y.2 2) && (yz_is y (6 + i.toNatClampNeg) 2 && decide (y.2 (6 + i.toNatClampNeg) ≤ 13) && xo_ix v (y.2 (6 + i.toNatClampNeg)))) = true then xo_let (yz_rem y (6 + i.toNatClampNeg) v) f else none) = some q) (K : ∀ y1 : yz_Y, f y1 = some q → ∀ yd' : Nat → Nat, (∀ j, (j < 6 ∨ 10 ≤ j) → yd' j = yd j) → zj_X p l e R s m args below meth c G nL (cells + 1) (slots + 13) Q (yz_W G Ch y0 yd' h y1) lv (pc + 4) st) : zj_X p l e R s m args below meth c G nL cells slots Q (yz_W G Ch y0 yd h y) lv pc (.int v :: .ref (yd (6 + i.toNatClampNeg)) :: .int i :: .ref (yd 2) :: st) := by
  by_cases hx0 : (xo_ix i (y.2 2) && (yz_is y (6 + i.toNatClampNeg) 2 && decide (y.2 (6 + i.toNatClampNeg) ≤ 13) && xo_ix v (y.2 (6 + i.toNatClampNeg)))) = true
  · rw [if_pos hx0] at hR
    have hx9 := (Bool.and_eq_true _ _).mp hx0
    have hlt9 := xo_ix_lt hx9.1
    refine zr_pure (φ := y.2 2 ≤ 4) (fun H hP => hP.2.2.1.2.2.2.1) (fun hb9 => ?_)
    refine zr_without C hc hx9.2 hR9 (by rw [List.map_cons, List.sum_cons, List.map_cons, List.sum_cons]; show 1 + (1 + (List.map (fun v => v.category) st).sum) ≤ 8; omega) hcs d1 (fun x => ?_)
    exact zr_mvD C hCh hx9.1 d2 (K _ hR _ (fun j hj => if_neg (by omega)))
  · rw [if_neg hx0] at hR; cases hR
end ZO
