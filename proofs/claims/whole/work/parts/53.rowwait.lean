/-! the reference notes that a fiber waits -/
section RY
variable {h : xw_M} {A : xs_A} {S : Nat → Nat} {k : Nat}
theorem xs_R.stamp {g : Nat → Int32} (hR : xs_R g A S k) (hs : A.sz) {f : Nat} (hf : f < A.nF) (s : Int32) (hno : ∀ n, A.fL n → n ≠ 0 → ¬ nI f ∈ A.ls n) (hm : ∀ n, A.fL n → ∀ x ∈ A.ls n, ∃ q, q < A.nF ∧ x = nI q) : xs_R (upd (upd (upd g (12 + f) s) (60 + f) (nI k)) 2 (nI (k + 1))) (A.set 1 f s) (fun q => if q = f then k else S q) (k + 1) := by
  obtain ⟨r1, r2, r3, r4, r5, r6⟩ := hR
  have h8 := hs.2.1
  have s1 := hs.1
  have hd : A.dR 1 f := Or.inl ⟨by omega, by omega, hf⟩
  have em : xs_m 1 f = 12 + f := by unfold xs_m; rw [if_pos (by omega)]
  refine ⟨fun t i h' => ?_, fun n hn => ?_, xs_upd_eq, fun q hq => ?_, fun q hq hw => ?_, fun n hn h0 => ?_⟩
  · have hne := xs_m_ne (A := A) hs h'
    rw [xs_upd_ne hne.2.1, xs_upd_ne (hne.2.2.1 f (by omega))]
    show _ = (if t = 1 ∧ i = f then s else A.a t i)
    by_cases e : t = 1 ∧ i = f
    · obtain ⟨rfl, rfl⟩ := e
      rw [em, xs_upd_eq, if_pos ⟨rfl, rfl⟩]
    · rw [if_neg e, xs_upd_ne (fun z => e (xs_m_inj hs h' hd (z.trans em.symm)))]
      exact r1 t i h'
  · have hn : A.dL n := hn
    obtain ⟨q1, q2, q3⟩ := r2 n hn
    have hb : xs_mn n ≠ 2 ∧ xs_mn n ≠ 60 + f ∧ xs_mn n ≠ 12 + f ∧ ∀ j, j < 8 → xs_mb n + j ≠ 2 ∧ xs_mb n + j ≠ 60 + f ∧ xs_mb n + j ≠ 12 + f := by
      unfold xs_mn xs_mb
      unfold xs_A.dL at hn
      refine ⟨?_, ?_, ?_, fun j hj => ⟨?_, ?_, ?_⟩⟩ <;> (repeat' split) <;> omega
    refine ⟨q1, ?_, fun j hj => ?_⟩
    · rw [xs_upd_ne hb.1, xs_upd_ne hb.2.1, xs_upd_ne hb.2.2.1]; exact q2
    · have hj : j < (A.ls n).length := hj
      have hb2 := hb.2.2.2 j (by omega)
      rw [xs_upd_ne hb2.1, xs_upd_ne hb2.2.1, xs_upd_ne hb2.2.2]; exact q3 j hj
  · rw [xs_upd_ne (by omega)]
    dsimp only
    by_cases e : q = f
    · rw [e, xs_upd_eq, if_pos rfl]; exact ⟨rfl, by omega⟩
    · rw [if_neg e, xs_upd_ne (by omega), xs_upd_ne (by omega)]
      exact ⟨(r4 q hq).1, by have := (r4 q hq).2; omega⟩
  · have hq : q < A.nF := hq
    show (if q = f then k else S q) < k + 1
    by_cases e : q = f
    · rw [if_pos e]; omega
    · rw [if_neg e]
      have := (r4 q (by omega)).2
      omega
  · have hn : A.fL n := hn
    refine List.Pairwise.imp_of_mem ?_ (r6 n hn h0)
    intro a b ha hb hab
    obtain ⟨x, hx, rfl⟩ := hm n hn a ha
    obtain ⟨y, hy, rfl⟩ := hm n hn b hb
    have nx : x ≠ f := fun e => hno n hn h0 (by rw [← e]; exact ha)
    have ny : y ≠ f := fun e => hno n hn h0 (by rw [← e]; exact hb)
    rw [nI_clamp (by omega), nI_clamp (by omega)] at hab ⊢
    dsimp only
    rw [if_neg nx, if_neg ny]
    exact hab
theorem xs_R.addW {g : Nat → Int32} (hR : xs_R g A S k) (hs : A.sz) {n f : Nat} (hn : A.fL n) (h0 : n ≠ 0) (hf : f < A.nF) (hx : ∀ x ∈ A.ls n, S x.toNatClampNeg < S f) : xs_R g (A.setL n (A.ls n ++ [nI f])) S k := by
  obtain ⟨r1, r2, r3, r4, r5, r6⟩ := hR
  have s1 := hs.1
  have h8 := hs.2.1
  refine ⟨r1, fun m hm => ?_, r3, r4, r5, fun m hm hm0 => ?_⟩
  · have hm : A.dL m := hm
    rw [xs_setL_ne (by unfold xs_A.dL at hm; unfold xs_A.fL at hn; omega)]
    exact r2 m hm
  · by_cases e : m = n
    · rw [e, xs_setL_eq, List.pairwise_append]
      refine ⟨r6 n hn h0, List.pairwise_singleton _ _, fun a ha b hb => ?_⟩
      rcases List.mem_cons.mp hb with z | z
      · rw [z, nI_clamp (by omega)]; exact hx a ha
      · exact absurd z List.not_mem_nil
    · rw [xs_setL_ne e]
      exact r6 m hm hm0
/-- waitIn: the row -/
theorem xs_rStamp (hK : xs_K h A) (hR : xs_R (h 356) A S k) (hs : A.sz) {f : Nat} (hf : f < A.nF) (s : Int32) : ∃ h', mX6_waitIn 351 (nI f) s h = some (h', ()) ∧ h' 356 = upd (upd (upd (h 356) (12 + f) s) (60 + f) (nI k)) 2 (nI (k + 1)) ∧ xs_off (fun c => c = 356) h h' := by
  have h8 := hs.2.1
  unfold mX6_waitIn xo_let
  rw [xs_i 12 (by decide), if_pos (xs_ix (by omega) (by decide)), nI_clamp (by omega)]
  dsimp only [Nat.reduceAdd]
  rw [xs_i 60 (by decide), if_pos (xs_ix (by omega) (by decide)), nI_clamp (by omega)]
  have g2 := hR.2.2.1
  have e2 : xw_st h 356 (12 + f) s 356 2 = nI k := by rw [xw_st_eq, xs_upd_ne (by omega)]; exact g2
  have e3 : xw_st (xw_st h 356 (12 + f) s) 356 (60 + f) (nI k) 356 2 = nI k := by rw [xw_st_eq, xs_upd_ne (by omega)]; exact e2
  rw [show Int32.toNatClampNeg 2 = 2 from by decide, e2, e3, nI_1]
  refine ⟨_, rfl, ?_, (xs_off6.tr xs_off6).tr xs_off6⟩
  rw [xw_st_eq, xw_st_eq, xw_st_eq]
end RY
