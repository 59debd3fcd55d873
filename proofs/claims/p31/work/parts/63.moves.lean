/-! the clock's moves without its memory -/
def xs_A.pl (A : xs_A) (f : Nat) : Nat := (A.a 2 f).toNatClampNeg
def xs_A.ready (A : xs_A) (f : Nat) : xs_A := (A.set 1 f 0).setL 0 (A.ls 0 ++ [nI f])
def xs_A.wake (A : xs_A) (n : Nat) : xs_A := match A.ls n with
  | [] => A
  | x :: l => ((A.setL n l).set 1 x.toNatClampNeg 0).setL 0 ((A.setL n l).ls 0 ++ [x])
def xs_A.move (A : xs_A) (f : Nat) : xs_A := (A.set 2 f (A.a 2 f + 1)).set 4 f (A.a 4 f + 1)
def xs_A.wait (A : xs_A) (f : Nat) (s : Int32) (n : Nat) : xs_A := (A.set 1 f s).setL n (A.ls n ++ [nI f])
def xs_A.put (A : xs_A) (c : Nat) (v : Int32) : xs_A := (A.setL (1 + c) (A.ls (1 + c) ++ [v])).wake (9 + c)
def xs_A.send (A : xs_A) (f c : Nat) (v : Int32) : xs_A := if A.a 8 c ≤ nI (A.ls (1 + c)).length then A.wait f 1 (5 + c) else (A.put c v).move f
def xs_A.take (A : xs_A) (f c : Nat) : xs_A := match A.ls (1 + c) with
  | [] => A.wait f 2 (9 + c)
  | v :: l => (((A.setL (1 + c) l).set 3 f (A.a 3 f + v)).wake (5 + c)).move f
def xs_A.join (A : xs_A) (f g : Nat) : xs_A := if A.a 1 g = 5 then A.move f else A.set 1 f 4
def xs_A.back (A : xs_A) (f j : Nat) : xs_A := if A.tw f j ≤ A.a (20 + f) j then (A.set (20 + f) j 0).move f else ((A.set (20 + f) j (A.a (20 + f) j + 1)).set 2 f (A.on f j)).set 4 f (A.a 4 f + 1)
/-- a step of fiber f is done, or not done -/
def xs_A.act (A : xs_A) (f : Nat) : xs_A :=
  if A.kd f (A.pl f) = 0 then A.send f (A.on f (A.pl f)).toNatClampNeg (A.tw f (A.pl f))
  else if A.kd f (A.pl f) = 1 then A.take f (A.on f (A.pl f)).toNatClampNeg
  else if A.kd f (A.pl f) = 2 then ((A.set 6 f (A.a 9 0 + A.on f (A.pl f))).set 1 f 3).move f
  else if A.kd f (A.pl f) = 3 then A.move f
  else if A.kd f (A.pl f) = 4 then A.join f (A.on f (A.pl f)).toNatClampNeg
  else if A.kd f (A.pl f) = 5 then A.back f (A.pl f)
  else if A.kd f (A.pl f) = 6 then A.send f (A.on f (A.pl f)).toNatClampNeg (A.a 3 f)
  else A.move f
def xs_A.go (f : Nat) : Nat → xs_A → xs_A
  | 0, A => A
  | n + 1, A => if nI (A.sc f) ≤ A.a 2 f then A else if A.kd f (A.pl f) = 3 ∨ ¬ (A.act f).a 1 f = 0 then A.act f else xs_A.go f n (A.act f)
def xs_A.joins (f : Nat) : Nat → Nat → xs_A → xs_A
  | 0, _, A => A
  | m + 1, i, A => xs_A.joins f m (i + 1) (if A.a 1 i = 4 then (if A.on i (A.pl i) = nI f then A.ready i else A) else A)
def xs_A.fin (A : xs_A) (f : Nat) : xs_A := if A.a 1 f = 0 then (if nI (A.sc f) ≤ A.a 2 f then xs_A.joins f A.nF 0 (A.set 1 f 5) else A.setL 0 (A.ls 0 ++ [nI f])) else A
def xs_A.rise : Nat → Nat → xs_A → xs_A
  | 0, _, A => A
  | m + 1, i, A => xs_A.rise m (i + 1) (if A.a 1 i = 3 then (if A.a 6 i = A.a 9 0 then A.ready i else A) else A)
def xs_A.tick (A : xs_A) : xs_A := A.set 9 0 (A.a 9 0 + 1)
def xs_A.turn (A : xs_A) : xs_A := match (xs_A.rise A.nF 0 A).ls 0 with
  | [] => ((xs_A.rise A.nF 0 A).set 10 0 ((xs_A.rise A.nF 0 A).a 10 0 + 1)).tick
  | x :: l => ((xs_A.go x.toNatClampNeg 4 (((xs_A.rise A.nF 0 A).setL 0 l).set 5 x.toNatClampNeg ((xs_A.rise A.nF 0 A).a 5 x.toNatClampNeg + 1))).fin x.toNatClampNeg).tick
/-! the class does these moves -/
def xs_to {β : Type} (B : Nat) (h : xw_M) (o : Option (xw_M × β)) (r : β) (A' : xs_A) : Prop := ∃ h', o = some (h', r) ∧ xs_CR B h' A' ∧ xs_off (xs_rg B) h h'
section CL
variable {B : Nat} {h : xw_M} {A : xs_A}
theorem xs_CR.getF (C : xs_CR B h A) {t f : Nat} (ht : 1 ≤ t ∧ t ≤ 6) (hf : f < A.nF) : h (B + 40 + 15 * f) t = A.a t f := by
  have h1 := C.sca t f (Or.inl ⟨ht.1, ht.2, Nat.lt_of_lt_of_le hf C.bd.2⟩)
  unfold xs_sk xs_sj at h1
  rw [if_pos ht.2, if_pos ht.2] at h1
  exact h1
theorem xs_CR.setF (C : xs_CR B h A) (hs : A.sz) {t f : Nat} (ht : 1 ≤ t ∧ t ≤ 6) (hf : f < A.nF) (v : Int32) : xs_CR B (xw_st h (B + 40 + 15 * f) t v) (A.set t f v) ∧ xs_off (xs_rg B) h (xw_st h (B + 40 + 15 * f) t v) := by
  have hd : A.dom t f := Or.inl ⟨ht.1, ht.2, Nat.lt_of_lt_of_le hf hs.2.1⟩
  have h1 := C.set hs hd v
  have h2 := xs_sk_rg hs hd (B := B)
  unfold xs_sk at h1 h2
  unfold xs_sj at h1
  rw [if_pos ht.2, if_pos ht.2] at h1
  rw [if_pos ht.2] at h2
  exact ⟨h1, xs_off.st h2⟩
theorem xs_CR.add (C : xs_CR B h A) (hs : A.sz) {n : Nat} (hn : A.nL n) (hl : (A.ls n).length < 8) (x : Int32) : xs_to B h (mX3_addLast (xs_qk B n) x h) () (A.setL n (A.ls n ++ [x])) := by
  obtain ⟨h', g1, g2, g3⟩ := xs_addLast x (C.que n hn) hl
  exact ⟨h', g1, C.setL hs hn g2 g3, g3.mono (xs_kQ_rg hs hn)⟩
theorem xs_CR.pop (C : xs_CR B h A) (hs : A.sz) {n : Nat} (hn : A.nL n) {x : Int32} {l : List Int32} (he : A.ls n = x :: l) : xs_to B h (mX3_takeFirst (xs_qk B n) h) x (A.setL n l) := by
  obtain ⟨h', g1, g2, g3⟩ := xs_takeFirst (he ▸ C.que n hn)
  exact ⟨h', g1, C.setL hs hn g2 g3, g3.mono (xs_kQ_rg hs hn)⟩
theorem xs_len (C : xs_CR B h A) {n : Nat} (hn : A.nL n) : h (xs_qk B n) 1 = nI (A.ls n).length ∧ (A.ls n).length ≤ 8 := ⟨(C.que n hn).2.1, (C.que n hn).1⟩
theorem xs_q1 {c : Nat} (hc : c < 4) : B + 5 + 7 * c + 1 = xs_qk B (1 + c) := by unfold xs_qk; rw [if_neg (by omega), if_pos (by omega)]; omega
theorem xs_q5 {c : Nat} (hc : c < 4) : B + 5 + 7 * c + 3 = xs_qk B (5 + c) := by unfold xs_qk; rw [if_neg (by omega), if_neg (by omega), if_pos (by omega)]; omega
theorem xs_q9 {c : Nat} (hc : c < 4) : B + 5 + 7 * c + 5 = xs_qk B (9 + c) := by unfold xs_qk; rw [if_neg (by omega), if_neg (by omega), if_neg (by omega)]; omega
theorem xs_nL (hs : A.sz) {c : Nat} (hc : c < A.nC) : A.nL (1 + c) ∧ A.nL (5 + c) ∧ A.nL (9 + c) := by
  have h4 := hs.1
  exact ⟨Or.inr (Or.inl ⟨by omega, by omega⟩), Or.inr (Or.inr (Or.inl ⟨by omega, by omega⟩)), Or.inr (Or.inr (Or.inr ⟨by omega, by omega⟩))⟩
theorem xs_ready (C : xs_CR B h A) (hs : A.sz) {f : Nat} (hf : f < A.nF) (hl : (A.ls 0).length < 8) : xs_to B h (mX1_makeReady B (B + 40 + 15 * f) h) () (A.ready f) := by
  unfold mX1_makeReady xo_let
  dsimp only
  obtain ⟨C1, o1⟩ := C.setF hs (t := 1) (by omega) hf 0
  rw [C1.num f (Nat.lt_of_lt_of_le hf hs.2.1)]
  obtain ⟨h2, e2, C2, o2⟩ := C1.add (n := 0) hs (Or.inl rfl) hl (nI f)
  rw [show B + 3 = xs_qk B 0 from rfl, e2]
  exact ⟨h2, rfl, C2, o1.tr o2⟩
theorem xs_move (C : xs_CR B h A) (hs : A.sz) {f : Nat} (hf : f < A.nF) : xs_to B h (mX2_moveOn (B + 40 + 15 * f) h) () (A.move f) := by
  unfold mX2_moveOn xo_let
  dsimp only
  rw [C.getF (t := 2) (by omega) hf]
  obtain ⟨C1, o1⟩ := C.setF hs (t := 2) (by omega) hf (A.a 2 f + 1)
  rw [C1.getF (t := 4) (by omega) hf]
  obtain ⟨C2, o2⟩ := C1.setF hs (t := 4) (by omega) hf (A.a 4 f + 1)
  exact ⟨_, rfl, C2, o1.tr o2⟩
theorem xs_wake (C : xs_CR B h A) (hs : A.sz) {n : Nat} (hn : A.nL n) (h0 : n ≠ 0) (hx : ∀ x ∈ A.ls n, ∃ f, f < A.nF ∧ x = nI f) (hl : A.ls n ≠ [] → (A.ls 0).length < 8) : xs_to B h (mX1_wakeFirst B (xs_qk B n) h) () (A.wake n) := by
  unfold mX1_wakeFirst xs_A.wake
  rw [(xs_len C hn).1]
  have h8 := (xs_len C hn).2
  cases he : A.ls n with
  | nil =>
    rw [if_pos (by decide)]
    exact ⟨h, rfl, C, xs_off.rf⟩
  | cons x l =>
    rw [he] at h8
    rw [if_neg (nI_nle (n := (x :: l).length) (Nat.succ_pos _) (by omega))]
    obtain ⟨f, hf, rfl⟩ := hx x (by rw [he]; exact List.mem_cons_self)
    have hf8 := Nat.lt_of_lt_of_le hf hs.2.1
    obtain ⟨h1, e1, C1, o1⟩ := C.pop hs hn he
    rw [e1]
    rw [Option.bind_some]
    dsimp only
    rw [xs_fiberAt hf8, Option.bind_some]
    unfold xo_let
    dsimp only
    obtain ⟨C2, o2⟩ := C1.setF hs (t := 1) (by omega) hf 0
    rw [C2.num f hf8]
    have e0 : (A.setL n l).ls 0 = A.ls 0 := if_neg (fun z => h0 z.symm)
    obtain ⟨h3, e3, C3, o3⟩ := C2.add (n := 0) hs (Or.inl rfl) (by show ((A.setL n l).ls 0).length < 8; rw [e0]; exact hl (by rw [he]; simp)) (nI f)
    rw [show B + 3 = xs_qk B 0 from rfl, e3]
    refine ⟨h3, rfl, ?_, (o1.tr o2).tr o3⟩
    rw [nI_clamp (by omega)]
    exact C3
/-- a fiber waits -/
theorem xs_wait (C : xs_CR B h A) (hs : A.sz) {f n : Nat} (hf : f < A.nF) (hn : A.nL n) (hl : (A.ls n).length < 8) (s : Int32) : xs_to B h (xo_let (xw_st h (B + 40 + 15 * f) 1 s) fun h3 => (mX3_addLast (xs_qk B n) (h3 (B + 40 + 15 * f) 0) h3).bind fun r4 => some (r4.1, ())) () (A.wait f s n) := by
  unfold xo_let
  dsimp only
  obtain ⟨C1, o1⟩ := C.setF hs (t := 1) (by omega) hf s
  rw [C1.num f (Nat.lt_of_lt_of_le hf hs.2.1)]
  obtain ⟨h2, e2, C2, o2⟩ := C1.add hs hn hl (nI f)
  rw [e2]
  exact ⟨h2, rfl, C2, o1.tr o2⟩
theorem xs_places (C : xs_CR B h A) {c : Nat} (hc : c < A.nC) : h (B + 5 + 7 * c) 0 = A.a 8 c := C.sca 8 c (Or.inr (Or.inl ⟨rfl, Nat.lt_of_lt_of_le hc C.bd.1⟩))
end CL
