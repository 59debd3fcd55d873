section XN
variable {p : Program} {l : Launch} {e : Env} {R : Room} {s : State} {m : MethodId} {args : Array Value} {below : List Frame} {meth : Method} {c : Code} {G : xw_G} {nL cells slots : Nat} {Q : State → Prop}
variable {cc : ByteArray} {own : String} {pc : Nat} {h : xw_M} {lv : List (Option Value)} {st : List Value}
/-! a new array of ints: one code more -/
def xw_z (h : xw_M) (k : Nat) : xw_M := fun a => if a = k then fun _ => 0 else h a
def xg_new (G : xw_G) (k x : Nat) : xw_G := (G.1, G.2.1, G.2.2.1, fun a => if a = k then x else xg_ad G a, xg_z G, k + 1)
theorem arrV_congr {cI : ClassId} {N : Nat} {f g : Nat → Value} (hfg : ∀ j, j < N → f j = g j) : arrV cI N f = arrV cI N g := by
  unfold arrV
  congr 1
  apply Array.ext
  · simp
  · intro i h1 h2
    simp only [Array.getElem_ofFn]
    exact hfg i (by simpa using h1)
/-- where all pointed at lies alike, a cell's content is one -/
theorem xw_ct_congr {D : va_G} {T : Nat → ClassId} {ad ad' : Nat → Nat} {j x : Nat} {g : Nat → Int32} {H : Heap} (ha : ∀ a, a < 358 → ad' a = ad a) (h : va_at D vwCl (x, xw_ct T ad (xw_kd j) j g) H) : va_at D vwCl (x, xw_ct T ad' (xw_kd j) j g) H := by
  have k0 : ∀ j, j < 358 → xw_kd j = 0 → j + 5 < 358 := by decide +kernel
  have k1 : ∀ j, j < 358 → xw_kd j = 1 → j + 160 < 358 := by decide +kernel
  have k2 : ∀ j, j < 358 → xw_kd j = 2 → j + 14 < 358 := by decide +kernel
  have k3 : ∀ j, j < 358 → xw_kd j = 3 → j + 1 < 358 := by decide +kernel
  have k6 : ∀ j, j < 358 → xw_kd j = 6 → j + 6 < 358 := by decide +kernel
  have k8 : ∀ j, j < 358 → xw_kd j = 8 → j + 4 + 21 < 358 := by decide +kernel
  have k9 : ∀ j, j < 358 → xw_kd j = 9 → j + 38 + 105 < 358 := by decide +kernel
  have kA : ∀ j, j < 358 → xw_kd j = 10 → j + 1 + 11 < 358 := by decide +kernel
  rcases (show xw_kd j = 0 ∨ xw_kd j = 1 ∨ xw_kd j = 2 ∨ xw_kd j = 3 ∨ xw_kd j = 4 ∨ xw_kd j = 5 ∨ xw_kd j = 6 ∨ xw_kd j = 7 ∨ xw_kd j = 8 ∨ xw_kd j = 9 ∨ xw_kd j = 10 ∨ xw_kd j = 11 ∨ xw_kd j = 12 ∨ xw_kd j = 13 ∨ xw_kd j = 14 ∨ xw_kd j = 15 ∨ 16 ≤ xw_kd j by omega) with e | e | e | e | e | e | e | e | e | e | e | e | e | e | e | e | e
  · have hj := k0 j (xw_lt e (by decide)) e
    rw [e] at h ⊢
    have h1 : va_at D vwCl (x, .inr (0, [.int (g 0), .ref (ad (j + 1)), .ref (ad (j + 3)), .ref (ad (j + 5))])) H := h
    show va_at D vwCl (x, .inr (0, [.int (g 0), .ref (ad' (j + 1)), .ref (ad' (j + 3)), .ref (ad' (j + 5))])) H
    rw [ha (j + 1) (by omega), ha (j + 3) (by omega), ha (j + 5) (by omega)]
    exact h1
  · have hj := k1 j (xw_lt e (by decide)) e
    rw [e] at h ⊢
    have h1 : va_at D vwCl (x, .inr (1, [.ref (ad (j + 1)), .ref (ad (j + 2)), .ref (ad (j + 33)), .ref (ad (j + 160)), .ref (ad (j + 3)), .int (g 5), .int (g 6), .int (g 7), .int (g 8)])) H := h
    show va_at D vwCl (x, .inr (1, [.ref (ad' (j + 1)), .ref (ad' (j + 2)), .ref (ad' (j + 33)), .ref (ad' (j + 160)), .ref (ad' (j + 3)), .int (g 5), .int (g 6), .int (g 7), .int (g 8)])) H
    rw [ha (j + 1) (by omega), ha (j + 2) (by omega), ha (j + 33) (by omega), ha (j + 160) (by omega), ha (j + 3) (by omega)]
    exact h1
  · have hj := k2 j (xw_lt e (by decide)) e
    rw [e] at h ⊢
    have h1 : va_at D vwCl (x, .inr (2, [.int (g 0), .int (g 1), .int (g 2), .int (g 3), .int (g 4), .int (g 5), .int (g 6), .int (g 7), .ref (ad (j + 1)), .ref (ad (j + 14))])) H := h
    show va_at D vwCl (x, .inr (2, [.int (g 0), .int (g 1), .int (g 2), .int (g 3), .int (g 4), .int (g 5), .int (g 6), .int (g 7), .ref (ad' (j + 1)), .ref (ad' (j + 14))])) H
    rw [ha (j + 1) (by omega), ha (j + 14) (by omega)]
    exact h1
  · have hj := k3 j (xw_lt e (by decide)) e
    rw [e] at h ⊢
    have h1 : va_at D vwCl (x, .inr (3, [.ref (ad (j + 1)), .int (g 1)])) H := h
    show va_at D vwCl (x, .inr (3, [.ref (ad' (j + 1)), .int (g 1)])) H
    rw [ha (j + 1) (by omega)]
    exact h1
  · rw [e] at h ⊢
    exact h
  · rw [e] at h ⊢
    have h1 : va_at D vwCl (x, .inr (5, [.ref (ad 0), .ref (ad 175)])) H := h
    show va_at D vwCl (x, .inr (5, [.ref (ad' 0), .ref (ad' 175)])) H
    rw [ha 0 (by omega), ha 175 (by omega)]
    exact h1
  · have hj := k6 j (xw_lt e (by decide)) e
    rw [e] at h ⊢
    have h1 : va_at D vwCl (x, .inr (6, [.int (g 0), .int (g 1), .int (g 2), .ref (ad (j + 1)), .ref (ad (j + 2)), .ref (ad (j + 3)), .ref (ad (j + 4)), .ref (ad (j + 5)), .ref (ad (j + 6))])) H := h
    show va_at D vwCl (x, .inr (6, [.int (g 0), .int (g 1), .int (g 2), .ref (ad' (j + 1)), .ref (ad' (j + 2)), .ref (ad' (j + 3)), .ref (ad' (j + 4)), .ref (ad' (j + 5)), .ref (ad' (j + 6))])) H
    rw [ha (j + 1) (by omega), ha (j + 2) (by omega), ha (j + 3) (by omega), ha (j + 4) (by omega), ha (j + 5) (by omega), ha (j + 6) (by omega)]
    exact h1
  · rw [e] at h ⊢
    exact h
  · have hj := k8 j (xw_lt e (by decide)) e
    rw [e] at h ⊢
    have h1 : H[x]? = some (arrV (T 1) 4 (fun i => va_rf (some (ad (j + 4 + 7 * i))))) := h
    show H[x]? = some (arrV (T 1) 4 (fun i => va_rf (some (ad' (j + 4 + 7 * i)))))
    rw [h1]
    exact congrArg some (arrV_congr (fun i hi => by rw [ha _ (by omega)]))
  · have hj := k9 j (xw_lt e (by decide)) e
    rw [e] at h ⊢
    have h1 : H[x]? = some (arrV (T 2) 8 (fun i => va_rf (some (ad (j + 38 + 15 * i))))) := h
    show H[x]? = some (arrV (T 2) 8 (fun i => va_rf (some (ad' (j + 38 + 15 * i)))))
    rw [h1]
    exact congrArg some (arrV_congr (fun i hi => by rw [ha _ (by omega)]))
  · have hj := kA j (xw_lt e (by decide)) e
    rw [e] at h ⊢
    have h1 : H[x]? = some (arrV (T 3) 12 (fun i => va_rf (some (ad (j + 1 + i))))) := h
    show H[x]? = some (arrV (T 3) 12 (fun i => va_rf (some (ad' (j + 1 + i)))))
    rw [h1]
    exact congrArg some (arrV_congr (fun i hi => by rw [ha _ (by omega)]))
  · rw [e] at h ⊢
    exact h
  · rw [e] at h ⊢
    exact h
  · rw [e] at h ⊢
    exact h
  · rw [e] at h ⊢
    exact h
  · rw [e] at h ⊢
    exact h
  · exfalso
    obtain ⟨κ, hκ⟩ : ∃ κ, xw_kd j = κ + 16 := ⟨xw_kd j - 16, by omega⟩
    rw [hκ] at h
    obtain ⟨r, h1, -⟩ := h
    simp [vwCl] at h1
theorem xg_new_ad {k x a : Nat} (hka : a ≠ k) : xg_ad (xg_new G k x) a = xg_ad G a := by
  show (if a = k then x else xg_ad G a) = xg_ad G a
  rw [if_neg hka]
theorem xw_drop {k x : Nat} {H : Heap} (hN : xg_N G = k) (h9 : 359 ≤ k) (hP : xw_P (xg_new G k x) h H) : xw_P G h H := by
  intro j q hq
  obtain ⟨h1, rfl⟩ := xw_at hq
  have hj : j ≠ k := by omega
  have h2 := hP j _ (xw_get (G := xg_new G k x) (show j < k + 1 by omega))
  rw [xg_new_ad hj] at h2
  exact xw_ct_congr (ad' := xg_ad G) (fun a ha => (xg_new_ad (x := x) (show a ≠ k by omega)).symm) h2
theorem xr_drop {k x : Nat} (hN : xg_N G = k) (h9 : 359 ≤ k) (K : xj_X p l e R s m args below meth c G nL cells slots Q h lv pc st) : xj_X p l e R s m args below meth c (xg_new G k x) nL cells slots Q h lv pc st := fun H locs ls hP hS hL => K H locs ls (xw_drop hN h9 hP) hS hL
theorem xr_newi (C : xj_C p s m args meth c G own cc nL) {k n κ : Nat} {v : Int32} (hN : xg_N G = k) (h9 : 359 ≤ k) (hκ : xw_kd k = κ) (ha : xw_al κ = some n) (hv0 : ¬ v < 0) (hv : v.toNatClampNeg = n) (hb : n * componentBytes .int ≤ 536870912) (hc : cells + 1 ≤ R.cells) (hs : slots + n ≤ R.slots) (d : decode cc pc = .ok (.newarray .int, 2)) (hw : Cond.arrayClass .int ∈ lw_g)
    (K : ∀ x : Nat, xj_C p s m args meth c (xg_new G k x) own cc nL → xj_X p l e R s m args below meth c (xg_new G k x) nL (cells + 1) (slots + n) Q (xw_z h k) lv (pc + 2) (.ref (xg_ad (xg_new G k x) k) :: st)) : xj_X p l e R s m args below meth c G nL cells slots Q h lv pc (.int v :: st) := by
  intro H locs ls hP hS hL
  refine va_newaK C.1 C.2.1 (atype := .int) (C.2.2.2.2.1 _ hw) rfl d rfl hv0 hv hb hc hs rfl (fun H' cA e1 e2 e3 e4 e5 => ?_)
  have hT := ((C.2.2.2.2.2.1.2 0 _ (show (xw_tys G)[0]? = some (xg_T G 0, .int) from rfl)).2)
  have hT2 : s.vm.findClass ("[" ++ FieldType.int.toString) = some (xg_T G 0) := hT
  have hcA : cA = xg_T G 0 := Option.some.inj (e5.symm.trans hT2)
  have hG := C.2.2.2.2.2.2.1
  have hlt : ∀ a, a < k → xg_ad G a < H.size := fun a ha => xw_adlt hP (by omega)
  have hG' : xw_ok (xg_new G k H.size) := by
    refine ⟨by show 359 ≤ k + 1; omega, fun i j hi hj hij => ?_, fun a ha => ?_⟩
    · by_cases e6 : i = k <;> by_cases e7 : j = k
      · omega
      · exfalso
        rw [xg_new_ad e7] at hij
        have h5 : xg_ad (xg_new G k H.size) i = H.size := by show (if i = k then H.size else xg_ad G i) = H.size; rw [if_pos e6]
        have h6 : j < k + 1 := hj
        have := hlt j (by omega)
        omega
      · exfalso
        rw [xg_new_ad e6] at hij
        have h5 : xg_ad (xg_new G k H.size) j = H.size := by show (if j = k then H.size else xg_ad G j) = H.size; rw [if_pos e7]
        have h6 : i < k + 1 := hi
        have := hlt i (by omega)
        omega
      · rw [xg_new_ad e6, xg_new_ad e7] at hij
        have h6 : i < k + 1 := hi
        have h7 : j < k + 1 := hj
        exact hG.2.1 i j (by omega) (by omega) hij
    · have h6 : a < k + 1 := ha
      by_cases e6 : a = k
      · have h5 : xg_ad (xg_new G k H.size) a = H.size := by show (if a = k then H.size else xg_ad G a) = H.size; rw [if_pos e6]
        rw [h5]
        show xg_z G ≤ H.size
        exact xw_zlt hG hP
      · rw [xg_new_ad e6]
        exact hG.2.2 a (by omega)
  have hk5 : xg_ad (xg_new G k H.size) k = H.size := if_pos rfl
  suffices hPP : xw_P (xg_new G k H.size) (xw_z h k) H' by
    have h9 := K H.size ⟨C.1, C.2.1, C.2.2.1, C.2.2.2.1, C.2.2.2.2.1, C.2.2.2.2.2.1, hG', C.2.2.2.2.2.2.2.1, C.2.2.2.2.2.2.2.2⟩ H' locs ls hPP ⟨Nat.le_trans hS.1 (by omega), fun q h1 h2 => (e3 q (Nat.lt_of_lt_of_le h1 hS.1)).trans (hS.2.1 q h1 h2), hS.2.2⟩ hL
    rw [hk5] at h9
    exact h9
  intro j q hq
  obtain ⟨h1, rfl⟩ := xw_at hq
  have h1' : j < k + 1 := h1
  by_cases e6 : j = k
  · have h5 : xg_ad (xg_new G k H.size) j = H.size := by show (if j = k then H.size else xg_ad G j) = H.size; rw [if_pos e6]
    rw [h5]
    have h7 : xw_ce (xg_new G k H.size) (xw_z h k) j = .inl (xg_T G 0, n, .inl (fun _ => 0)) := by
      unfold xw_ce xw_z
      rw [e6, hκ, if_pos rfl]
      exact xw_al_ct ha _
    rw [h7]
    show H'[H.size]? = some (vp_cell (xg_T G 0) (n, .inl fun _ => 0))
    rw [e1, hcA]
    rfl
  · rw [xg_new_ad e6]
    have h8 := (hP j _ (xw_get (G := G) (by omega))).kept (e3 _ (hlt j (by omega)))
    have h9' : xw_z h k j = h j := by unfold xw_z; rw [if_neg e6]
    show va_at _ _ (xg_ad G j, xw_ct (xg_T G) (xg_ad (xg_new G k H.size)) (xw_kd j) j (xw_z h k j)) H'
    rw [h9']
    exact xw_ct_congr (fun a ha => xg_new_ad (show a ≠ k by omega)) h8
theorem xr_Q {Q9 : State → Prop} (hQ : ∀ t, Q9 t → Q t) (K : xj_X p l e R s m args below meth c G nL cells slots Q9 h lv pc st) : xj_X p l e R s m args below meth c G nL cells slots Q h lv pc st := by
  intro H locs ls hP hS hL T hT Y
  obtain ⟨t, a, b⟩ := K H locs ls hP hS hL T hT Y
  exact ⟨t, a, hQ t b⟩
theorem xo_letI {α β : Type} {a : α} {f : α → β} {r : β} (hR : xo_let a f = r) : f a = r := hR
theorem kd_351 : xw_kd 351 = 6 := by decide +kernel
theorem kd_359 : xw_kd 359 = 13 := by decide +kernel
theorem kd_360 : xw_kd 360 = 14 := by decide +kernel
theorem xw_kd6 {k : Nat} (hk : xw_kd k = 6) : k = 351 := by
  have h1 := xw_lt hk (by decide)
  exact (show ∀ k, k < 358 → xw_kd k = 6 → k = 351 by decide +kernel) k h1 hk
theorem xw_nat1 {a : Int32} (ha : xo_ix a 8 = true) : (a + 1).toNatClampNeg = a.toNatClampNeg + 1 ∧ a.toNatClampNeg < 8 := by
  obtain ⟨j, hj, rfl⟩ := vp_in_of (xo_ix_in ha) (by decide)
  rw [nI_1, nI_clamp (by omega), nI_clamp (by omega)]
  exact ⟨rfl, hj⟩
end XN
