/-! the moves keep the order -/
section WG
variable {A : xs_A} {r : Nat}
theorem xs_at_one (hs : A.sz) {m n f : Nat} (hm : A.fL m) (hn : A.fL n) (h1 : A.at r m f) (h2 : A.at r n f) : m = n := by
  have s1 := hs.1
  unfold xs_A.at at h1 h2
  unfold xs_A.fL at hm hn
  by_cases m0 : m = 0 <;> by_cases n0 : n = 0
  · omega
  · rw [if_pos m0] at h1; rw [if_neg n0] at h2
    rw [h1.1] at h2
    split at h2 <;> exact absurd h2.1 (by decide)
  · rw [if_neg m0] at h1; rw [if_pos n0] at h2
    rw [h2.1] at h1
    split at h1 <;> exact absurd h1.1 (by decide)
  · rw [if_neg m0] at h1; rw [if_neg n0] at h2
    split at h1 <;> split at h2
    · have := (nI_eq (by omega) (by omega)).mp (h1.2.symm.trans h2.2); omega
    · exact absurd (h1.1.symm.trans h2.1) (by decide)
    · exact absurd (h1.1.symm.trans h2.1) (by decide)
    · have := (nI_eq (by omega) (by omega)).mp (h1.2.symm.trans h2.2); omega
theorem xs_at_st {n f : Nat} (h : A.at r n f) : n = 0 ∧ A.a 1 f = 0 ∧ f ≠ r ∨ n ≠ 0 ∧ (A.a 1 f = 1 ∨ A.a 1 f = 2) := by
  unfold xs_A.at at h
  by_cases n0 : n = 0
  · rw [if_pos n0] at h; exact Or.inl ⟨n0, h⟩
  · rw [if_neg n0] at h
    right
    refine ⟨n0, ?_⟩
    split at h
    · exact Or.inl h.1
    · exact Or.inr h.1
/-- the state of a fiber that stands nowhere changes, to one where it stands nowhere -/
theorem xs_W.st (h : xs_W A r) (hf : r < A.nF) (h0 : A.a 1 r ≠ 1 ∧ A.a 1 r ≠ 2) {s : Int32} (hs : s ≠ 1 ∧ s ≠ 2) (h4 : s = 4 → A.pl r < A.sc r) : xs_W (A.set 1 r s) r := by
  obtain ⟨h1, h2, h3, h4', h5, h6⟩ := h
  have e1 : ∀ g, g ≠ r → (A.set 1 r s).a 1 g = A.a 1 g := fun g hg => xs_set_ne (fun z => hg z.2)
  have e0 : (A.set 1 r s).a 1 r = s := xs_set_eq
  have e2 : ∀ g, (A.set 1 r s).a 2 g = A.a 2 g := fun g => xs_set_ne (t := 1) (t' := 2) (i := r) (i' := g) (v := s) (fun z => absurd z.1 (by decide))
  have ep : ∀ g, (A.set 1 r s).pl g = A.pl g := fun f => congrArg Int32.toNatClampNeg (e2 f)
  refine ⟨h1, h2, fun g hg => by rw [e2]; exact h3 g hg, fun g hg hw => ?_, fun c hc => ?_, ?_⟩
  · rw [ep]
    by_cases e : g = r
    · rw [e, e0] at hw
      rw [e]
      exact h4 (hw.elim (fun z => absurd z hs.1) (fun z => z.elim (fun z => absurd z hs.2) id))
    · rw [e1 g e] at hw
      exact h4' g hg hw
  · rw [show (A.set 1 r s).a 8 c = A.a 8 c from xs_set_ne (t := 1) (t' := 8) (i := r) (i' := c) (v := s) (fun z => absurd z.1 (by decide))]
    exact h5 c hc
  · refine xs_mv (f := r) h1 h6 rfl rfl hf (fun n g hn hg hne => ?_) (fun n hn => Or.inl ⟨rfl, ?_⟩)
    · unfold xs_A.at
      rw [e1 g hne, ep]
      exact Iff.rfl
    · refine ⟨fun z => ?_, fun z => ?_⟩
      · rcases xs_at_st z with ⟨_, _, z3⟩ | ⟨_, z2⟩
        · exact absurd rfl z3
        · rw [e0] at z2; exact z2.elim (fun z => absurd z hs.1) (fun z => absurd z hs.2)
      · rcases xs_at_st z with ⟨_, _, z3⟩ | ⟨_, z2⟩
        · exact absurd rfl z3
        · exact z2.elim (fun z => absurd z h0.1) (fun z => absurd z h0.2)
/-- the place of a fiber that does not wait changes -/
theorem xs_W.plc (h : xs_W A r) {f : Nat} (hf : f < A.nF) (h0 : A.a 1 f ≠ 1 ∧ A.a 1 f ≠ 2 ∧ A.a 1 f ≠ 4) {p : Nat} (hp : p ≤ A.sc f) : xs_W (A.set 2 f (nI p)) r := by
  obtain ⟨h1, h2, h3, h4, h5, h6⟩ := h
  have e1 : ∀ g, (A.set 2 f (nI p)).a 1 g = A.a 1 g := fun g => xs_set_ne (t := 2) (t' := 1) (i := f) (i' := g) (v := nI p) (fun z => absurd z.1 (by decide))
  have e2 : ∀ g, g ≠ f → (A.set 2 f (nI p)).a 2 g = A.a 2 g := fun g hg => xs_set_ne (fun z => hg z.2)
  have ep : ∀ g, g ≠ f → (A.set 2 f (nI p)).pl g = A.pl g := fun g hg => congrArg Int32.toNatClampNeg (e2 g hg)
  refine ⟨h1, h2, fun g hg => ?_, fun g hg hw => ?_, fun c hc => ?_, ?_⟩
  · by_cases e : g = f
    · rw [e]; exact ⟨p, hp, xs_set_eq⟩
    · rw [e2 g e]; exact h3 g hg
  · rw [e1] at hw
    by_cases e : g = f
    · rw [e] at hw; exact absurd hw (fun z => z.elim h0.1 (fun z => z.elim h0.2.1 h0.2.2))
    · rw [ep g e]; exact h4 g hg hw
  · rw [show (A.set 2 f (nI p)).a 8 c = A.a 8 c from xs_set_ne (t := 2) (t' := 8) (i := f) (i' := c) (v := nI p) (fun z => absurd z.1 (by decide))]
    exact h5 c hc
  · refine xs_mv (f := f) h1 h6 rfl rfl hf (fun n g hn hg hne => ?_) (fun n hn => Or.inl ⟨rfl, ?_⟩)
    · unfold xs_A.at
      rw [e1, ep g hne]
      exact Iff.rfl
    · unfold xs_A.at
      rw [e1]
      split
      · exact Iff.rfl
      · split
        · exact ⟨fun z => absurd z.1 h0.1, fun z => absurd z.1 h0.1⟩
        · exact ⟨fun z => absurd z.1 h0.2.1, fun z => absurd z.1 h0.2.1⟩
/-- the first of the line is at work -/
theorem xs_W.work (h : xs_W A 99) {x : Int32} {l : List Int32} (he : A.ls 0 = x :: l) : ∃ f, f < A.nF ∧ x = nI f ∧ A.a 1 f = 0 ∧ xs_W (A.setL 0 l) f := by
  obtain ⟨h1, h2, h3, h4, h5, h6⟩ := h
  have hm := h6 0 (Or.inl rfl)
  obtain ⟨f, hf, hx⟩ := hm.1.2 x (by rw [he]; exact List.mem_cons_self)
  have hat := (hm.2 f hf).mp (by rw [he, hx]; exact List.mem_cons_self)
  have hat2 : A.a 1 f = 0 := by unfold xs_A.at at hat; rw [if_pos rfl] at hat; exact hat.1
  have := h1.2.1
  refine ⟨f, hf, hx, hat2, h1, h2, h3, h4, fun c hc => ?_, ?_⟩
  · rw [show (A.setL 0 l).ls (1 + c) = A.ls (1 + c) from xs_setL_ne (by omega)]
    exact h5 c hc
  · refine xs_mv (f := f) h1 h6 rfl rfl hf (fun n g hn hg hne => ?_) (fun n hn => ?_)
    · show A.at f n g ↔ A.at 99 n g
      unfold xs_A.at
      split
      · exact ⟨fun z => ⟨z.1, by omega⟩, fun z => ⟨z.1, hne⟩⟩
      · exact Iff.rfl
    · by_cases n0 : n = 0
      · right; right
        rw [n0]
        refine ⟨by rw [xs_setL_eq, he, hx], fun z => ?_⟩
        have z : A.at f 0 f := z
        unfold xs_A.at at z
        rw [if_pos rfl] at z
        exact z.2 rfl
      · left
        refine ⟨xs_setL_ne n0, ?_⟩
        show A.at f n f ↔ A.at 99 n f
        unfold xs_A.at
        rw [if_neg n0, if_neg n0]
/-- a fiber at work stands in line again -/
theorem xs_W.line (h : xs_W A r) (hf : r < A.nF) (h0 : A.a 1 r = 0) : xs_W (A.setL 0 (A.ls 0 ++ [nI r])) 99 := by
  obtain ⟨h1, h2, h3, h4, h5, h6⟩ := h
  have := h1.2.1
  refine ⟨h1, h2, h3, h4, fun c hc => ?_, ?_⟩
  · rw [show (A.setL 0 (A.ls 0 ++ [nI r])).ls (1 + c) = A.ls (1 + c) from xs_setL_ne (by omega)]
    exact h5 c hc
  · refine xs_mv (f := r) h1 h6 rfl rfl hf (fun n g hn hg hne => ?_) (fun n hn => ?_)
    · show A.at 99 n g ↔ A.at r n g
      unfold xs_A.at
      split
      · exact ⟨fun z => ⟨z.1, hne⟩, fun z => ⟨z.1, by omega⟩⟩
      · exact Iff.rfl
    · by_cases n0 : n = 0
      · right; left
        rw [n0]
        refine ⟨xs_setL_eq, ?_, fun z => ?_⟩
        · show A.at 99 0 r
          unfold xs_A.at
          rw [if_pos rfl]
          exact ⟨h0, by omega⟩
        · unfold xs_A.at at z
          rw [if_pos rfl] at z
          exact z.2 rfl
      · left
        refine ⟨xs_setL_ne n0, ?_⟩
        show A.at 99 n r ↔ A.at r n r
        unfold xs_A.at
        rw [if_neg n0, if_neg n0]
/-- a fiber that is not ready is at work no more -/
theorem xs_W.rest (h : xs_W A r) (h0 : A.a 1 r ≠ 0) : xs_W A 99 := by
  obtain ⟨h1, h2, h3, h4, h5, h6⟩ := h
  have := h1.2.1
  refine ⟨h1, h2, h3, h4, h5, fun n hn => ⟨(h6 n hn).1, fun f hf => ?_⟩⟩
  rw [(h6 n hn).2 f hf]
  unfold xs_A.at
  split
  · exact ⟨fun z => ⟨z.1, by omega⟩, fun z => ⟨z.1, fun e => h0 (e ▸ z.1)⟩⟩
  · exact Iff.rfl
/-- a fiber at work waits at a channel -/
theorem xs_W.wait (h : xs_W A r) (hf : r < A.nF) (h0 : A.a 1 r = 0) (hp : A.pl r < A.sc r) {n : Nat} {s : Int32} (hn : A.fL n) (hat : (A.set 1 r s).at r n r) (hsn : n ≠ 0) : xs_W (A.wait r s n) r := by
  obtain ⟨h1, h2, h3, h4, h5, h6⟩ := h
  have hs12 : s = 1 ∨ s = 2 := by
    rcases xs_at_st hat with ⟨z, _⟩ | ⟨_, z⟩
    · exact absurd z hsn
    · rw [show (A.set 1 r s).a 1 r = s from xs_set_eq] at z; exact z
  have e1 : ∀ g, g ≠ r → (A.wait r s n).a 1 g = A.a 1 g := fun g hg => xs_set_ne (fun z => hg z.2)
  have e0 : (A.wait r s n).a 1 r = s := xs_set_eq
  have e2 : ∀ g, (A.wait r s n).a 2 g = A.a 2 g := fun g => xs_set_ne (t := 1) (t' := 2) (i := r) (i' := g) (v := s) (fun z => absurd z.1 (by decide))
  have ep : ∀ g, (A.wait r s n).pl g = A.pl g := fun f => congrArg Int32.toNatClampNeg (e2 f)
  refine ⟨h1, h2, fun g hg => by rw [e2]; exact h3 g hg, fun g hg hw => ?_, fun c hc => ?_, ?_⟩
  · rw [ep]
    by_cases e : g = r
    · rw [e]; exact hp
    · rw [e1 g e] at hw
      exact h4 g hg hw
  · rw [show (A.wait r s n).a 8 c = A.a 8 c from xs_set_ne (t := 1) (t' := 8) (i := r) (i' := c) (v := s) (fun z => absurd z.1 (by decide)), show (A.wait r s n).ls (1 + c) = A.ls (1 + c) from xs_setL_ne (by have := h1.1; have hc : c < A.nC := hc; unfold xs_A.fL at hn; omega)]
    exact h5 c hc
  · have hno : ∀ m, ¬ A.at r m r := fun m z => by
      rcases xs_at_st z with ⟨_, _, z3⟩ | ⟨_, z2⟩
      · exact z3 rfl
      · rw [h0] at z2; exact absurd z2 (by decide)
    have hat' : (A.wait r s n).at r n r := hat
    refine xs_mv (f := r) h1 h6 rfl rfl hf (fun m g hm hg hne => ?_) (fun m hm => ?_)
    · unfold xs_A.at
      rw [e1 g hne, ep]
      exact Iff.rfl
    · by_cases e : m = n
      · right; left
        rw [e]
        exact ⟨xs_setL_eq, hat', hno n⟩
      · left
        exact ⟨xs_setL_ne e, fun z => absurd (xs_at_one (A := A.wait r s n) h1 hm hn z hat') e, fun z => absurd z (hno m)⟩
/-- the first that waits at a channel is ready -/
theorem xs_W.wake (h : xs_W A r) (hr : ∀ g, g < A.nF → g = r → A.a 1 g ≠ 1 ∧ A.a 1 g ≠ 2) {n : Nat} (hn : A.fL n) (h0 : n ≠ 0) : xs_W (A.wake n) r := by
  unfold xs_A.wake
  cases he : A.ls n with
  | nil => exact h
  | cons x l =>
    obtain ⟨h1, h2, h3, h4, h5, h6⟩ := h
    have hm := h6 n hn
    obtain ⟨f, hf, hx⟩ := hm.1.2 x (by rw [he]; exact List.mem_cons_self)
    have hat := (hm.2 f hf).mp (by rw [he, hx]; exact List.mem_cons_self)
    have hs8 := h1.2.1
    subst hx
    show xs_W (((A.setL n l).set 1 (nI f).toNatClampNeg 0).setL 0 ((A.setL n l).ls 0 ++ [nI f])) r
    rw [nI_clamp (by omega), show (A.setL n l).ls 0 = A.ls 0 from xs_setL_ne (fun z => h0 z.symm)]
    have hst : A.a 1 f = 1 ∨ A.a 1 f = 2 := by
      rcases xs_at_st hat with ⟨z, _⟩ | ⟨_, z⟩
      · exact absurd z h0
      · exact z
    have hfr : f ≠ r := fun e => by
      have := hr f hf e
      exact hst.elim this.1 this.2
    generalize hA : ((A.setL n l).set 1 f 0).setL 0 (A.ls 0 ++ [nI f]) = A'
    have ea : A'.a = (A.set 1 f 0).a := by rw [← hA]; rfl
    have e1 : ∀ g, g ≠ f → A'.a 1 g = A.a 1 g := fun g hg => by rw [ea]; exact xs_set_ne (fun z => hg z.2)
    have e0 : A'.a 1 f = 0 := by rw [ea]; exact xs_set_eq
    have e2 : ∀ g, A'.a 2 g = A.a 2 g := fun g => by rw [ea]; exact xs_set_ne (t := 1) (t' := 2) (i := f) (i' := g) (v := 0) (fun z => absurd z.1 (by decide))
    have ep : ∀ g, A'.pl g = A.pl g := fun f => congrArg Int32.toNatClampNeg (e2 f)
    have l0 : A'.ls 0 = A.ls 0 ++ [nI f] := by rw [← hA]; exact xs_setL_eq
    have ln : A'.ls n = l := by rw [← hA]; exact (xs_setL_ne h0).trans xs_setL_eq
    have lo : ∀ m, m ≠ 0 → m ≠ n → A'.ls m = A.ls m := fun m hm0 hmn => by rw [← hA]; exact (xs_setL_ne hm0).trans (xs_setL_ne hmn)
    have q1 : A'.nC = A.nC := by rw [← hA]; rfl
    have q2 : A'.nF = A.nF := by rw [← hA]; rfl
    have q3 : A'.sc = A.sc := by rw [← hA]; rfl
    have q4 : A'.kd = A.kd := by rw [← hA]; rfl
    have q5 : A'.on = A.on := by rw [← hA]; rfl
    refine ⟨by rw [← hA]; exact h1, by rw [← hA]; exact h2, fun g hg => by rw [e2, q3]; exact h3 g (q2 ▸ hg), fun g hg hw => ?_, fun c hc => ?_, ?_⟩
    · rw [ep, q3]
      by_cases e : g = f
      · rw [e, e0] at hw
        exact absurd hw (by decide)
      · rw [e1 g e] at hw
        exact h4 g (q2 ▸ hg) hw
    · rw [q1] at hc
      have := h1.1
      rw [show A'.a 8 c = A.a 8 c by rw [ea]; exact xs_set_ne (t := 1) (t' := 8) (i := f) (i' := c) (v := 0) (fun z => absurd z.1 (by decide)), lo (1 + c) (by omega) (by unfold xs_A.fL at hn; omega)]
      exact h5 c hc
    · refine xs_mv (f := f) h1 h6 q1 q2 hf (fun m g hm hg hne => ?_) (fun m hm => ?_)
      · unfold xs_A.at
        rw [e1 g hne, ep, q5]
      · have hno : m ≠ 0 → ¬ A'.at r m f := fun hm0 z => by
          rcases xs_at_st z with ⟨z1, _⟩ | ⟨_, z2⟩
          · exact hm0 z1
          · rw [e0] at z2; exact absurd z2 (by decide)
        by_cases m0 : m = 0
        · right; left
          rw [m0]
          refine ⟨l0, ?_, fun z => h0 (xs_at_one h1 hn (Or.inl rfl) hat z)⟩
          unfold xs_A.at
          rw [if_pos rfl]
          exact ⟨e0, hfr⟩
        · by_cases mn : m = n
          · right; right
            rw [mn] at m0 ⊢
            exact ⟨by rw [he, ln], fun z => by
              rcases xs_at_st z with ⟨z1, _⟩ | ⟨_, z2⟩
              · exact m0 z1
              · rw [e0] at z2; exact absurd z2 (by decide)⟩
          · left
            exact ⟨lo m m0 mn, fun z => absurd z (hno m0), fun z => absurd (xs_at_one h1 hm hn z hat) mn⟩
end WG
