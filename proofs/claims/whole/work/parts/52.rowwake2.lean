section RX
variable {h : xw_M} {A : xs_A} {S : Nat → Nat} {k r : Nat}
theorem xs_W.hp (w : xs_W A r) {s : Int32} (hs : s = 1 ∨ s = 2 ∨ s = 4) : ∀ f, f < A.nF → A.a 1 f = s → A.a 2 f = nI (A.pl f) ∧ A.pl f < A.sc f := fun f hf e => ⟨(w.pl hf).1, w.2.2.2.1 f hf (by rw [e]; exact hs)⟩
theorem xs_W.at5 (w : xs_W A r) {c : Nat} (hc : c < A.nC) : ∀ f, f < A.nF → ((A.a 1 f = 1 ∧ A.on f (A.pl f) = nI c) ↔ nI f ∈ A.ls (5 + c)) := fun f hf => by
  have s1 := w.1.1
  rw [(w.2.2.2.2.2 _ (xs_fL hc).1).2 f hf]
  unfold xs_A.at
  rw [if_neg (by omega), if_pos (by omega), show 5 + c - 5 = c by omega]
theorem xs_W.at9 (w : xs_W A r) {c : Nat} (hc : c < A.nC) : ∀ f, f < A.nF → ((A.a 1 f = 2 ∧ A.on f (A.pl f) = nI c) ↔ nI f ∈ A.ls (9 + c)) := fun f hf => by
  rw [(w.2.2.2.2.2 _ (xs_fL hc).2).2 f hf]
  unfold xs_A.at
  rw [if_neg (by omega), if_neg (by omega), show 9 + c - 9 = c by omega]
theorem xs_rWake {n : Nat} {s x : Int32} (hK : xs_K h A) (hR : xs_R (h 356) A S k) (w : xs_W A r) (hk : k < 2 ^ 31) (hn : A.fL n) (h0 : n ≠ 0) (hs : s = 1 ∨ s = 2 ∨ s = 4) (hc : ∀ f, f < A.nF → ((A.a 1 f = s ∧ A.on f (A.pl f) = x) ↔ nI f ∈ A.ls n)) (hl : A.ls n ≠ [] → (A.ls 0).length < 8) : xs_tm h (mX6_wake 351 s x h) () (A.wake n) S k := by
  have h8 := w.1.2.1
  obtain ⟨best, hb, e⟩ := xs_rWakeLoop hK hR hk w.1 (w.hp hs) hc A.nF 0 xo_n (-1) (by omega) (by show A.nF < 300; omega) (Or.inl ⟨rfl, fun j hj => absurd hj (Nat.not_lt_zero _)⟩)
  unfold mX6_wake
  rw [show (0 : Int32) = nI 0 from rfl, e]
  unfold xs_A.wake
  cases he : A.ls n with
  | nil =>
    rcases hb with ⟨b1, b2⟩ | ⟨b, b1, b2, b3, b4⟩
    · rw [if_pos b1]
      exact ⟨h, rfl, hK, hR, xs_off.rf⟩
    · rw [he] at b3; exact absurd b3 List.not_mem_nil
  | cons y l =>
    obtain ⟨f, hf, hy⟩ := w.fibs hn y (by rw [he]; exact List.mem_cons_self)
    subst hy
    have hmem : nI f ∈ A.ls n := by rw [he]; exact List.mem_cons_self
    have hbf : best = nI f := by
      rcases hb with ⟨b1, b2⟩ | ⟨b, b1, b2, b3, b4⟩
      · exact absurd hmem (b2 f hf)
      · have h1 := b4 f hf hmem
        rw [he] at b3
        rcases List.mem_cons.mp b3 with z | z
        · exact b2.trans z
        · have hpw := hR.2.2.2.2.2 n hn h0
          rw [he] at hpw
          have := (List.pairwise_cons.mp hpw).1 _ z
          rw [nI_clamp (by omega), nI_clamp (by omega)] at this
          omega
    rw [hbf, if_neg (by intro z; have := nI_pos (n := f) (by omega); rw [z] at this; exact this (by decide))]
    have R1 := hR.popW w.1 hn h0 he
    have hA0 : (A.setL n l).ls 0 = A.ls 0 := xs_setL_ne (fun z => h0 z.symm)
    obtain ⟨h1, e1, K1, R2, o1⟩ := xs_rReady (A := A.setL n l) hK R1 w.1 (f := f) hf (by rw [hA0]; exact hl (by rw [he]; simp))
    rw [e1, Option.bind_some]
    have ea : ((A.setL n l).set 1 (nI f).toNatClampNeg 0).setL 0 ((A.setL n l).ls 0 ++ [nI f]) = (A.setL n l).ready f := by
      rw [nI_clamp (by omega)]
      rfl
    show xs_tm h (some (h1, ())) () (((A.setL n l).set 1 (nI f).toNatClampNeg 0).setL 0 ((A.setL n l).ls 0 ++ [nI f])) S k
    rw [ea]
    exact ⟨h1, rfl, K1, R2, o1⟩
end RX
