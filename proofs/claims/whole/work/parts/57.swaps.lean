/-! settings that do not meet change places -/
section SW
variable {A : xs_A}
theorem xs_aext {f g : Nat → Nat → Int32} (h : ∀ a b, f a b = g a b) : ((A.nC, A.nF, A.sc, A.kd, A.on, A.tw, f, A.ls) : xs_A) = (A.nC, A.nF, A.sc, A.kd, A.on, A.tw, g, A.ls) := by
  rw [show f = g from funext fun a => funext fun b => h a b]
theorem xs_set_set {t i : Nat} {v v' : Int32} : (A.set t i v).set t i v' = A.set t i v' := by
  show ((A.nC, A.nF, A.sc, A.kd, A.on, A.tw, fun a b => if a = t ∧ b = i then v' else (if a = t ∧ b = i then v else A.a a b), A.ls) : xs_A) = (A.nC, A.nF, A.sc, A.kd, A.on, A.tw, fun a b => if a = t ∧ b = i then v' else A.a a b, A.ls)
  refine xs_aext (fun a b => ?_)
  by_cases h : a = t ∧ b = i
  · rw [if_pos h, if_pos h]
  · rw [if_neg h, if_neg h, if_neg h]
theorem xs_set_sw {t i t' i' : Nat} {v v' : Int32} (h : ¬ (t = t' ∧ i = i')) : (A.set t i v).set t' i' v' = (A.set t' i' v').set t i v := by
  show ((A.nC, A.nF, A.sc, A.kd, A.on, A.tw, fun a b => if a = t' ∧ b = i' then v' else (if a = t ∧ b = i then v else A.a a b), A.ls) : xs_A) = (A.nC, A.nF, A.sc, A.kd, A.on, A.tw, fun a b => if a = t ∧ b = i then v else (if a = t' ∧ b = i' then v' else A.a a b), A.ls)
  refine xs_aext (fun a b => ?_)
  by_cases h1 : a = t' ∧ b = i'
  · rw [if_pos h1, if_neg (fun z => h ⟨z.1.symm.trans h1.1, z.2.symm.trans h1.2⟩), if_pos h1]
  · rw [if_neg h1, if_neg h1]
theorem xs_set_setL {t i n : Nat} {v : Int32} {l : List Int32} : (A.set t i v).setL n l = (A.setL n l).set t i v := rfl
theorem xs_set_wake {t i n : Nat} {v : Int32} (ht : t ≠ 1) : (A.set t i v).wake n = (A.wake n).set t i v := by
  unfold xs_A.wake
  show (match A.ls n with
    | [] => A.set t i v
    | x :: l => ((((A.set t i v).setL n l).set 1 x.toNatClampNeg 0).setL 0 (((A.set t i v).setL n l).ls 0 ++ [x]))) = _
  cases A.ls n with
  | nil => rfl
  | cons x l =>
    show (((A.set t i v).setL n l).set 1 x.toNatClampNeg 0).setL 0 (((A.set t i v).setL n l).ls 0 ++ [x]) = _
    have e : ((A.setL n l).set t i v).set 1 x.toNatClampNeg 0 = ((A.setL n l).set 1 x.toNatClampNeg 0).set t i v := xs_set_sw (fun z => ht z.1)
    show (((A.setL n l).set t i v).set 1 x.toNatClampNeg 0).setL 0 ((A.setL n l).ls 0 ++ [x]) = _
    rw [e]
    rfl
theorem xs_set_put {t i c : Nat} {v x : Int32} (ht : t ≠ 1) : (A.set t i v).put c x = (A.put c x).set t i v := by
  unfold xs_A.put
  show ((A.setL (1 + c) (A.ls (1 + c) ++ [x])).set t i v).wake (9 + c) = _
  exact xs_set_wake ht
end SW
