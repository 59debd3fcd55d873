/-! the reference takes -/
section RTk
variable {h : xw_M} {A : xs_A} {S : Nat → Nat} {k r : Nat}
theorem xs_cpOk {a b n : Nat} (h1 : a + n ≤ 204) (h2 : b + n ≤ 204) : xo_cp (nI a) (nI b) (nI n) 204 204 = true := by
  unfold xo_cp
  rw [nI_clamp (by omega), nI_clamp (by omega), nI_clamp (by omega)]
  simp only [Bool.and_eq_true, decide_eq_true_eq]
  exact ⟨⟨⟨⟨nI_pos (by omega), nI_pos (by omega)⟩, nI_pos (by omega)⟩, h1⟩, h2⟩
theorem xs_cp356 {a b n : Nat} (h1 : a < 2 ^ 31) (h2 : b < 2 ^ 31) (h3 : n < 2 ^ 31) : xw_cp h 356 (nI a) 356 (nI b) (nI n) 356 = va_cpy (h 356) (h 356) a b n ∧ xs_off (fun c => c = 356) h (xw_cp h 356 (nI a) 356 (nI b) (nI n)) := by
  unfold xw_cp
  rw [nI_clamp h1, nI_clamp h2, nI_clamp h3]
  exact ⟨if_pos rfl, fun c hc => if_neg hc⟩
theorem xs_rTake (hK : xs_K h A) (hR : xs_R (h 356) A S k) (w : xs_W A r) (hk : k < 2 ^ 31) {c : Nat} (hc : c < A.nC) {v : Int32} {l : List Int32} (he : A.ls (1 + c) = v :: l) (hl : A.ls (5 + c) ≠ [] → (A.ls 0).length < 8) : xs_tm h (mX6_take 351 (nI c) h) v ((A.setL (1 + c) l).wake (5 + c)) S k := by
  have s1 := w.1.1
  have hd : A.dL (1 + c) := Or.inr ⟨by omega, by omega⟩
  obtain ⟨q1, q2, q3⟩ := hR.2.1 (1 + c) hd
  have em : xs_mn (1 + c) = 168 + c := by unfold xs_mn; rw [if_neg (by omega)]; omega
  have eb : xs_mb (1 + c) = 172 + 8 * c := by unfold xs_mb; rw [if_neg (by omega)]; omega
  rw [he] at q1 q2 q3
  have q1 : l.length + 1 ≤ 8 := q1
  have hv : h 356 (172 + 8 * c) = v := by have := q3 0 (Nat.succ_pos _); rw [eb] at this; exact this
  rw [em] at q2
  have q2 : h 356 (168 + c) = nI (l.length + 1) := q2
  have w1 : xs_W (A.setL (1 + c) l) r := w.drops hc (fun p hp2 he2 => by
    obtain ⟨p', p1, p2, p3, p4⟩ := w.2.2.2.2.1 c hc
    have e : p = p' := (nI_eq (by omega) (by omega)).mp (he2.symm.trans p3)
    rw [he] at p4
    rw [e]
    exact Nat.le_of_succ_le p4)
  unfold mX6_take xo_let
  rw [xs_8c, xs_i 168 (by decide), if_pos (xs_ix (by omega) (by decide)), if_pos (xs_ix (by omega) (by decide)), if_pos (xs_ix (by omega) (by decide)), nI_clamp (by omega), nI_clamp (by omega)]
  dsimp only [Nat.reduceAdd]
  have e2 : ∀ x : Int32, xw_st h 356 (168 + c) x 356 (168 + c) = x := fun x => xw_stE
  rw [if_pos (xs_ix (by omega) (by decide)), q2, nI_pred, e2, nI_1, hv, if_pos (xs_cpOk (by omega) (by omega))]
  obtain ⟨c1, c2⟩ := xs_cp356 (h := xw_st h 356 (168 + c) (nI l.length)) (a := 172 + 8 * c + 1) (b := 172 + 8 * c) (n := l.length) (by omega) (by omega) (by omega)
  generalize hH : xw_cp (xw_st h 356 (168 + c) (nI l.length)) 356 (nI (172 + 8 * c + 1)) 356 (nI (172 + 8 * c)) (nI l.length) = h2 at c1 c2
  have hg : ∀ j, h2 356 j = if 172 + 8 * c ≤ j ∧ j < 172 + 8 * c + l.length then h 356 (172 + 8 * c + 1 + (j - (172 + 8 * c))) else if j = 168 + c then nI l.length else h 356 j := fun j => by
    rw [c1, xw_st_eq]
    unfold va_cpy
    split
    · rw [xs_upd_ne (by omega)]
    · rfl
  have R1 := hR.pop (g' := h2 356) w.1 hd he (by rw [em, hg, if_neg (by omega), if_pos rfl]) (fun j hj => by
    rw [eb, hg, if_pos (by omega)]
    congr 1
    omega) (fun j hj1 hj2 => by
    rw [em] at hj1
    rw [hg, if_neg (fun z => hj2 (j - (172 + 8 * c)) (by omega) (by rw [eb]; omega)), if_neg hj1])
  have o1 := xs_off.tr (xs_off6 (h := h) (j := 168 + c) (v := nI l.length)) c2
  have K1 := hK.st (A' := A.setL (1 + c) l) xs_ss.rf o1
  obtain ⟨h3, e3, K3, R3, o3⟩ := xs_rWake (n := 5 + c) (s := 1) (x := nI c) K1 R1 w1 hk (xs_fL (A := A) hc).1 (by omega) (Or.inl rfl) (w1.at5 hc) (fun z => by
    rw [xs_setL_ne (by omega)] at z ⊢
    exact hl z)
  rw [e3, Option.bind_some]
  exact ⟨h3, rfl, K3, R3, o1.tr o3⟩
end RTk
