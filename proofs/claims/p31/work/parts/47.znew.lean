section ZL
variable {p : Program} {l : Launch} {e : Env} {R : Room} {s : State} {m : MethodId} {args : Array Value} {below : List Frame} {meth : Method} {c : Code} {G : xw_G} {nL cells slots : Nat} {Q : State → Prop}
variable {cc : ByteArray} {own : String} {pc : Nat} {lv : List (Option Value)} {st : List Value} {Pr : Heap → Prop}
/-- all that was there at s0 is as it was, and these cells are new -/
def zL (G : xw_G) (s0 : Heap) (ws : va_W) (H : Heap) : Prop := s0.size ≤ H.size ∧ (∀ q : Nat, q < s0.size → H[q]? = s0[q]?) ∧ (∀ (i : Nat) (q : Nat × va_E), ws[i]? = some q → va_at (xg_D G) vwCl q H ∧ s0.size ≤ q.1) ∧ ∀ (i j : Nat) (x z : Nat × va_E), ws[i]? = some x → ws[j]? = some z → x.1 = z.1 → i = j
theorem zL.nil {s0 : Heap} : zL G s0 [] s0 := ⟨Nat.le_refl _, fun _ _ => rfl, fun i q h => by simp at h, fun i j x z h => by simp at h⟩
theorem zL.new {s0 H H' : Heap} {ws : va_W} {e : va_E} (h : zL G s0 ws H) (h1 : H'.size = H.size + 1) (h2 : ∀ q : Nat, q < H.size → H'[q]? = H[q]?) (h3 : va_at (xg_D G) vwCl (H.size, e) H') : zL G s0 ((H.size, e) :: ws) H' := by
  obtain ⟨a1, a2, a3, a4⟩ := h
  refine ⟨by omega, fun q hq => (h2 q (by omega)).trans (a2 q hq), fun i q hi => ?_, fun i j x z hi hj hxz => ?_⟩
  · cases i with
    | zero => cases hi; exact ⟨h3, a1⟩
    | succ i => have h9 := a3 i q hi; exact ⟨h9.1.kept (h2 _ h9.1.lt), h9.2⟩
  · cases i with
    | zero =>
      cases j with
      | zero => rfl
      | succ j => cases hi; have h9 := (a3 j z hj).1.lt; have : H.size = z.1 := hxz; omega
    | succ i =>
      cases j with
      | zero => cases hj; have h9 := (a3 i x hi).1.lt; have : x.1 = H.size := hxz; omega
      | succ j => rw [a4 i j x z hi hj hxz]
theorem zL.set {s0 H H' : Heap} {ws : va_W} {i a : Nat} {e0 e : va_E} (h : zL G s0 ws H) (hi : ws[i]? = some (a, e0)) (h1 : H'.size = H.size) (h2 : ∀ q : Nat, q ≠ a → H'[q]? = H[q]?) (h3 : va_at (xg_D G) vwCl (a, e) H') : zL G s0 (ws.set i (a, e)) H' := by
  obtain ⟨a1, a2, a3, a4⟩ := h
  have ha := (a3 i _ hi).2
  have hl := (List.getElem?_eq_some_iff.mp hi).1
  have key : ∀ (k : Nat) (q : Nat × va_E), (ws.set i (a, e))[k]? = some q → (k = i ∧ q = (a, e)) ∨ (k ≠ i ∧ ws[k]? = some q) := by
    intro k q hk
    by_cases hki : k = i
    · subst hki
      rw [List.getElem?_set_self hl] at hk
      exact Or.inl ⟨rfl, (Option.some.inj hk).symm⟩
    · rw [List.getElem?_set_ne (Ne.symm hki)] at hk
      exact Or.inr ⟨hki, hk⟩
  refine ⟨by omega, fun q hq => (h2 q (fun z => by have : s0.size ≤ a := ha; omega)).trans (a2 q hq), fun k q hk => ?_, fun k j x z hk hj hxz => ?_⟩
  · rcases key k q hk with ⟨-, rfl⟩ | ⟨h9, h8⟩
    · exact ⟨h3, ha⟩
    · have h7 := a3 k q h8
      exact ⟨h7.1.kept (h2 _ (fun z => h9 (a4 k i q _ h8 hi z))), h7.2⟩
  · rcases key k x hk with ⟨r1, rfl⟩ | ⟨r1, r2⟩ <;> rcases key j z hj with ⟨t1, rfl⟩ | ⟨t1, t2⟩
    · omega
    · exact absurd (a4 j i z _ t2 hi hxz.symm) t1
    · exact absurd (a4 k i x _ r2 hi hxz) r1
    · exact a4 k j x z r2 t2 hxz
theorem zL.old {s0 H : Heap} {ws : va_W} {q : Nat × va_E} (h : zL G s0 ws H) (hq : va_at (xg_D G) vwCl q s0) : va_at (xg_D G) vwCl q H := hq.kept (h.2.1 _ hq.lt)
theorem zr_obj (C : zj_C p s m args meth c G own cc nL) {a idx : Nat} (hw : Cond.methodLink own idx objectInit ∈ lw_g ∧ Cond.instanceMethod objectInit ∈ lw_g ∧ Cond.code objectInit ⟨#[0xb1]⟩ 1 none ∈ lw_g) (d : decode cc pc = .ok (.invokespecial idx, 3)) (hf : 1 ≤ R.frames) (hl : (st.map fun v => v.category).sum + 12 ≤ R.locals) (K : zj_X p l e R s m args below meth c G nL cells slots Q Pr lv (pc + 3) st) : zj_X p l e R s m args below meth c G nL cells slots Q Pr lv pc (.ref a :: st) := fun H locs ls hP hS hL => W.objInit C.1 C.2.1 C.2.2.2.1 (C.2.2.2.2.1 _ hw.1) (C.2.2.2.2.1 _ hw.2.1) (C.2.2.2.2.1 _ hw.2.2) rfl (hL.1.trans C.2.2.1.symm) rfl d hf (by rw [show (F0 m pc ls (.ref a :: st)).monitorRoom = 0 from rfl]; omega) (K H locs ls hP hS hL)
theorem zl_newi (C : zj_C p s m args meth c G own cc nL) {s0 : Heap} {ws : va_W} {n : Nat} {v : Int32} (hv0 : ¬ v < 0) (hv : v.toNatClampNeg = n) (hb : n * componentBytes .int ≤ 536870912) (hc : cells + 1 ≤ R.cells) (hs : slots + n ≤ R.slots) (hw : Cond.arrayClass .int ∈ lw_g) (d : decode cc pc = .ok (.newarray .int, 2)) (K : ∀ x : Nat, (∀ q ∈ ws, q.1 < x) → zj_X p l e R s m args below meth c G nL (cells + 1) (slots + n) Q (zL G s0 ((x, .inl (xg_T G 0, n, .inl (fun _ => 0))) :: ws)) lv (pc + 2) (.ref x :: st)) : zj_X p l e R s m args below meth c G nL cells slots Q (zL G s0 ws) lv pc (.int v :: st) := by
  refine zr_newR C hv0 hv hb hc hs hw d (fun x => ?_)
  refine zr_pure (φ := ∀ q ∈ ws, q.1 < x) (fun H h q hq => ?_) (fun h9 => zr_eqH (fun H h => ?_) (K x h9))
  · obtain ⟨⟨H0, h1, h2, h3, h4⟩, h5⟩ := h
    obtain ⟨i, hi⟩ := List.getElem?_of_mem hq
    rw [h2]; exact (h1.2.2.1 i q hi).1.lt
  · obtain ⟨⟨H0, h1, h2, h3, h4⟩, h5⟩ := h
    subst h2
    exact h1.new h3 h4 h5
theorem zr_newA (C : zj_C p s m args meth c G own cc nL) {n idx : Nat} {v : Int32} (hv0 : ¬ v < 0) (hv : v.toNatClampNeg = n) (hb : n * 4 ≤ 536870912) (hc : cells + 1 ≤ R.cells) (hs : slots + n ≤ R.slots) (hw : Cond.classLink own idx (FieldType.array .int).toString ∈ lw_g) (d : decode cc pc = .ok (.anewarray idx, 3)) (K : ∀ x : Nat, zj_X p l e R s m args below meth c G nL (cells + 1) (slots + n) Q (fun H' => (∃ H, zNew Pr x H' H) ∧ va_at (xg_D G) vwCl (x, .inl (xg_T G 5, n, .inr (.inr (.inr (.inr (fun _ => none)))))) H') lv (pc + 3) (.ref x :: st)) : zj_X p l e R s m args below meth c G nL cells slots Q Pr lv pc (.int v :: st) := by
  intro H locs ls hP hS hL
  subst hv
  refine W.anewA (t := .int) C.1 C.2.1 C.2.2.2.1 (C.2.2.2.2.1 _ hw) (zv_AA.use C.2.2.2.2.2.2.2.2.1.2.2.2.2.2) rfl d rfl hv0 hb hc hs (fun cA kA comp f1 f2 f3 f4 => ?_)
  generalize hH1 : H.push ({ cls := cA, slots := Array.replicate v.toNatClampNeg .null, vm := .none } : Cell) = H1
  have z1 : H1.size = H.size + 1 := by rw [← hH1, Array.size_push]
  have e1 : H1[H.size]? = some (arrV cA v.toNatClampNeg (fun _ => .null)) := by rw [← hH1, Array.getElem?_push_size, ← arrV_new]
  have o1 : ∀ q : Nat, q < H.size → H1[q]? = H[q]? := fun q hq => by rw [← hH1, Array.getElem?_push, if_neg (Nat.ne_of_lt hq)]
  have t5 : s.vm.findClass ("[" ++ (FieldType.array .int).toString) = some (xg_T G 5) := (C.2.2.2.2.2.1.2 5 _ (show (xw_tys G)[5]? = some (xg_T G 5, .array .int) from rfl)).2
  have hcA : cA = xg_T G 5 := Option.some.inj (f1.symm.trans t5)
  exact K H.size H1 locs ls ⟨⟨H, hP, rfl, z1, o1⟩, by show H1[H.size]? = some (vp_cell _ _); rw [vp_cell_q, ← hcA]; exact e1⟩ ⟨Nat.le_trans hS.1 (by omega), fun q g1 g2 => (o1 q (Nat.lt_of_lt_of_le g1 hS.1)).trans (hS.2.1 q g1 g2), hS.2.2⟩ hL
theorem zr_newF (C : zj_C p s m args meth c G own cc nL) {n idx : Nat} {v : Int32} (hv0 : ¬ v < 0) (hv : v.toNatClampNeg = n) (hb : n * 4 ≤ 536870912) (hc : cells + 1 ≤ R.cells) (hs : slots + n ≤ R.slots) (hw : Cond.classLink own idx RX6 ∈ lw_g) (d : decode cc pc = .ok (.anewarray idx, 3)) (K : ∀ x : Nat, zj_X p l e R s m args below meth c G nL (cells + 1) (slots + n) Q (fun H' => (∃ H, zNew Pr x H' H) ∧ va_at (xg_D G) vwCl (x, .inl (xg_T G 6, n, .inr (.inr (.inr (.inr (fun _ => none)))))) H') lv (pc + 3) (.ref x :: st)) : zj_X p l e R s m args below meth c G nL cells slots Q Pr lv pc (.int v :: st) := by
  intro H locs ls hP hS hL
  subst hv
  refine W.anew C.1 C.2.1 C.2.2.2.1 (C.2.2.2.2.1 _ hw) (va_AO.use C.2.2.2.2.2.2.2.2.1.2.2.2.2.1) rfl d rfl hv0 hb hc hs (fun cA kA comp f1 f2 f3 f4 => ?_)
  generalize hH1 : H.push ({ cls := cA, slots := Array.replicate v.toNatClampNeg .null, vm := .none } : Cell) = H1
  have z1 : H1.size = H.size + 1 := by rw [← hH1, Array.size_push]
  have e1 : H1[H.size]? = some (arrV cA v.toNatClampNeg (fun _ => .null)) := by rw [← hH1, Array.getElem?_push_size, ← arrV_new]
  have o1 : ∀ q : Nat, q < H.size → H1[q]? = H[q]? := fun q hq => by rw [← hH1, Array.getElem?_push, if_neg (Nat.ne_of_lt hq)]
  obtain ⟨kA9, comp9, g1, g2, g3, g4⟩ := (C.2.2.2.2.2.1.2 6 _ (show (xw_tys G)[6]? = some (xg_T G 6, .object RX6) from rfl)).2
  have hcA : cA = xg_T G 6 := Option.some.inj (f1.symm.trans g4)
  exact K H.size H1 locs ls ⟨⟨H, hP, rfl, z1, o1⟩, by show H1[H.size]? = some (vp_cell _ _); rw [vp_cell_q, ← hcA]; exact e1⟩ ⟨Nat.le_trans hS.1 (by omega), fun q g1 g2 => (o1 q (Nat.lt_of_lt_of_le g1 hS.1)).trans (hS.2.1 q g1 g2), hS.2.2⟩ hL
theorem zl_of (C : zj_C p s m args meth c G own cc nL) {s0 : Heap} {ws : va_W} {e9 : va_E} {pc' : Nat} {x : Nat} (K : (∀ q ∈ ws, q.1 < x) → zj_X p l e R s m args below meth c G nL cells slots Q (zL G s0 ((x, e9) :: ws)) lv pc' st) : zj_X p l e R s m args below meth c G nL cells slots Q (fun H' => (∃ H, zNew (zL G s0 ws) x H' H) ∧ va_at (xg_D G) vwCl (x, e9) H') lv pc' st := by
  refine zr_pure (φ := ∀ q ∈ ws, q.1 < x) (fun H h q hq => ?_) (fun h9 => zr_eqH (fun H h => ?_) (K h9))
  · obtain ⟨⟨H0, h1, h2, h3, h4⟩, h5⟩ := h
    obtain ⟨i, hi⟩ := List.getElem?_of_mem hq
    rw [h2]; exact (h1.2.2.1 i q hi).1.lt
  · obtain ⟨⟨H0, h1, h2, h3, h4⟩, h5⟩ := h
    subst h2
    exact h1.new h3 h4 h5
theorem zl_newA (C : zj_C p s m args meth c G own cc nL) {s0 : Heap} {ws : va_W} {n idx : Nat} {v : Int32} (hv0 : ¬ v < 0) (hv : v.toNatClampNeg = n) (hb : n * 4 ≤ 536870912) (hc : cells + 1 ≤ R.cells) (hs : slots + n ≤ R.slots) (hw : Cond.classLink own idx (FieldType.array .int).toString ∈ lw_g) (d : decode cc pc = .ok (.anewarray idx, 3)) (K : ∀ x : Nat, (∀ q ∈ ws, q.1 < x) → zj_X p l e R s m args below meth c G nL (cells + 1) (slots + n) Q (zL G s0 ((x, .inl (xg_T G 5, n, .inr (.inr (.inr (.inr (fun _ => none)))))) :: ws)) lv (pc + 3) (.ref x :: st)) : zj_X p l e R s m args below meth c G nL cells slots Q (zL G s0 ws) lv pc (.int v :: st) := zr_newA C hv0 hv hb hc hs hw d (fun x => zl_of C (K x))
theorem zl_newF (C : zj_C p s m args meth c G own cc nL) {s0 : Heap} {ws : va_W} {n idx : Nat} {v : Int32} (hv0 : ¬ v < 0) (hv : v.toNatClampNeg = n) (hb : n * 4 ≤ 536870912) (hc : cells + 1 ≤ R.cells) (hs : slots + n ≤ R.slots) (hw : Cond.classLink own idx RX6 ∈ lw_g) (d : decode cc pc = .ok (.anewarray idx, 3)) (K : ∀ x : Nat, (∀ q ∈ ws, q.1 < x) → zj_X p l e R s m args below meth c G nL (cells + 1) (slots + n) Q (zL G s0 ((x, .inl (xg_T G 6, n, .inr (.inr (.inr (.inr (fun _ => none)))))) :: ws)) lv (pc + 3) (.ref x :: st)) : zj_X p l e R s m args below meth c G nL cells slots Q (zL G s0 ws) lv pc (.int v :: st) := zr_newF C hv0 hv hb hc hs hw d (fun x => zl_of C (K x))
theorem zl_newO (C : zj_C p s m args meth c G own cc nL) {s0 : Heap} {ws : va_W} {ci idx : Nat} {fs : List Value} (hn : xv_nw own idx ci fs) (hc1 : cells + 1 ≤ R.cells) (hs1 : slots + fs.length ≤ R.slots) (d : decode cc pc = .ok (.new idx, 3)) (K : ∀ x : Nat, (∀ q ∈ ws, q.1 < x) → zj_X p l e R s m args below meth c G nL (cells + 1) (slots + fs.length) Q (zL G s0 ((x, .inr (ci, fs)) :: ws)) lv (pc + 3) (.ref x :: st)) : zj_X p l e R s m args below meth c G nL cells slots Q (zL G s0 ws) lv pc st := by
  intro H locs ls hP hS hL
  obtain ⟨r, ty, h1, h2, h3, h4, h5, h6, h7⟩ := hn
  have hKn := C.2.2.2.2.2.1.1 ci r h1
  have hts := C.2.2.2.2.1
  refine W.newcK C.1 C.2.1 C.2.2.2.1 (hts _ h3) (hts _ h4) (hts _ h5) rfl d hc1 (by rw [h7]; exact hs1) hKn.2.1 rfl (fun H' kC hkC e1 z1 o1 => ?_)
  have hW := K H.size (fun q hq => by obtain ⟨i, hi⟩ := List.getElem?_of_mem hq; exact (hP.2.2.1 i q hi).1.lt) H' locs ls (hP.new (e := .inr (ci, fs)) z1 o1 ⟨r, h1, (u_born ty hts (xw_cl ci r h1).1 hKn hkC e1 h2).to h6⟩) ⟨Nat.le_trans hS.1 (by rw [z1]; omega), fun q g1 g2 => (o1 q (Nat.lt_of_lt_of_le g1 hS.1)).trans (hS.2.1 q g1 g2), hS.2.2⟩ hL
  rw [h7]
  exact hW
/-- a row of ints into a new row of such -/
theorem zl_astA (C : zj_C p s m args meth c G own cc nL) {s0 : Heap} {ws : va_W} {i0 a x n m9 : Nat} {g : Nat → Int32} {f : Nat → Option Nat} {i : Int32} (hz : xg_z G ≤ s0.size) (ha : ws[i0]? = some (a, .inl (xg_T G 5, n, .inr (.inr (.inr (.inr f)))))) (hx : ∀ H, zL G s0 ws H → zI G x m9 g H) (hin : vp_in i n) (d : decode cc pc = .ok (.aastore, 1)) (K : zj_X p l e R s m args below meth c G nL cells slots Q (zL G s0 (ws.set i0 (a, .inl (xg_T G 5, n, .inr (.inr (.inr (.inr (va_up f i.toNatClampNeg (some x))))))))) lv (pc + 1) st) : zj_X p l e R s m args below meth c G nL cells slots Q (zL G s0 ws) lv pc (.ref x :: .int i :: .ref a :: st) := by
  intro H locs ls hP hS hL
  have hlt : i.toNatClampNeg < n := Nat.not_le.mp fun q => hin (Or.inr q)
  have h0 : ¬ i < 0 := fun q => hin (Or.inl q)
  have hc2 : H[a]? = some (arrV (xg_T G 5) n (fun j => va_rf (f j))) := (hP.2.2.1 i0 _ ha).1
  have hx9 : H[x]? = some (arrV (xg_T G 0) m9 (fun j => .int (g j))) := hx H hP
  obtain ⟨comp, cA, kA, a1, -, a3, a4, a5⟩ := arrayOverA_spec (zv_AA.use (A := args) C.2.2.2.2.2.2.2.2.1.2.2.2.2.2)
  have t5 : s.vm.findClass ("[" ++ (FieldType.array .int).toString) = some (xg_T G 5) := (C.2.2.2.2.2.1.2 5 _ (show (xw_tys G)[5]? = some (xg_T G 5, .array .int) from rfl)).2
  have t0 : s.vm.findClass ("[" ++ FieldType.int.toString) = some (xg_T G 0) := (C.2.2.2.2.2.1.2 0 _ (show (xw_tys G)[0]? = some (xg_T G 0, .int) from rfl)).2
  have hcA : cA = xg_T G 5 := Option.some.inj (a5.symm.trans t5)
  have hcomp : comp = xg_T G 0 := Option.some.inj (a1.symm.trans t0)
  subst hcA
  obtain ⟨kc, hkc, -⟩ := Vm.findClass_spec a1
  refine W.aast C.1 C.2.1 hc2 (fun q h => by cases h) (fun h => by cases h) a3 a4 rfl hkc ⟨h0, by show _ < (arrV _ _ _).slots.size; rw [arrV_size]; exact hlt⟩ hx9 (fun q h => by cases h) (by rw [hcomp] at hkc; exact hkc) (by show s.vm.assignable (xg_T G 0) comp = true; rw [hcomp]; exact zv_asg _ _) rfl rfl d fun H1 e z oq => ?_
  refine K H1 _ ls (hP.set ha z oq ?_) (hS.put z oq (Nat.le_trans hz (hP.2.2.1 i0 _ ha).2)) hL
  show H1[a]? = some (vp_cell _ _)
  rw [e, vp_cell_q, arrV_store]
  congr 2
  funext b
  by_cases hb : b = i.toNatClampNeg
  · subst hb
    simp [updV, va_up, va_rf]
  · simp [updV, va_up, hb]
theorem zl_astF (C : zj_C p s m args meth c G own cc nL) {s0 : Heap} {ws : va_W} {i0 a x n : Nat} {fs : List Value} {f : Nat → Option Nat} {i : Int32} (hz : xg_z G ≤ s0.size) (ha : ws[i0]? = some (a, .inl (xg_T G 6, n, .inr (.inr (.inr (.inr f)))))) (hx : ∀ H, zL G s0 ws H → va_at (xg_D G) vwCl (x, .inr (6, fs)) H) (hin : vp_in i n) (d : decode cc pc = .ok (.aastore, 1)) (K : zj_X p l e R s m args below meth c G nL cells slots Q (zL G s0 (ws.set i0 (a, .inl (xg_T G 6, n, .inr (.inr (.inr (.inr (va_up f i.toNatClampNeg (some x))))))))) lv (pc + 1) st) : zj_X p l e R s m args below meth c G nL cells slots Q (zL G s0 ws) lv pc (.ref x :: .int i :: .ref a :: st) := by
  intro H locs ls hP hS hL
  have hlt : i.toNatClampNeg < n := Nat.not_le.mp fun q => hin (Or.inr q)
  have h0 : ¬ i < 0 := fun q => hin (Or.inl q)
  have hc2 : H[a]? = some (arrV (xg_T G 6) n (fun j => va_rf (f j))) := (hP.2.2.1 i0 _ ha).1
  have hK := C.2.2.2.2.2.1
  obtain ⟨r', hr', cellV, g1, g2, g3, -⟩ := hx H hP
  have hcls := (hK.1 6 r' hr').2
  have hr6 : r'.1 = RX6 := by cases hr'; rfl
  obtain ⟨kA, comp, k1, k2, k3, -⟩ := (hK.2 6 _ (show (xw_tys G)[6]? = some (xg_T G 6, .object RX6) from rfl)).2
  have hcomp : comp = (xg_D G).1 6 := Option.some.inj (k3.symm.trans (by rw [← hr6]; exact hcls.1))
  subst hcomp
  obtain ⟨kC, hkC, -⟩ := hcls.2
  refine W.aast C.1 C.2.1 hc2 (fun q h => by cases h) (fun h => by cases h) k1 k2 rfl hkC ⟨h0, by show _ < (arrV _ _ _).slots.size; rw [arrV_size]; exact hlt⟩ g1 (fun q h => by rw [g3] at h; cases h) (by rw [g2]; exact hkC) (by rw [g2]; exact zv_asg _ _) rfl rfl d fun H1 e z oq => ?_
  refine K H1 _ ls (hP.set ha z oq ?_) (hS.put z oq (Nat.le_trans hz (hP.2.2.1 i0 _ ha).2)) hL
  show H1[a]? = some (vp_cell _ _)
  rw [e, vp_cell_q, arrV_store]
  congr 2
  funext b
  by_cases hb : b = i.toNatClampNeg
  · subst hb
    simp [updV, va_up, va_rf]
  · simp [updV, va_up, hb]
theorem zl_iast (C : zj_C p s m args meth c G own cc nL) {s0 : Heap} {ws : va_W} {i0 a n : Nat} {g : Nat → Int32} {i v : Int32} (hz : xg_z G ≤ s0.size) (ha : ws[i0]? = some (a, .inl (xg_T G 0, n, .inl g))) (hin : vp_in i n) (d : decode cc pc = .ok (.iastore, 1)) (K : zj_X p l e R s m args below meth c G nL cells slots Q (zL G s0 (ws.set i0 (a, .inl (xg_T G 0, n, .inl (upd g i.toNatClampNeg v))))) lv (pc + 1) st) : zj_X p l e R s m args below meth c G nL cells slots Q (zL G s0 ws) lv pc (.int v :: .int i :: .ref a :: st) :=
  zr_iastO C (fun H h => ⟨(h.2.2.1 i0 _ ha).1, Nat.le_trans hz (h.2.2.1 i0 _ ha).2⟩) hin (fun H H1 h z oq e => h.set ha z oq e) d K
theorem zl_put (C : zj_C p s m args meth c G own cc nL) {s0 : Heap} {ws : va_W} {i0 a κ j idx : Nat} {fs : List Value} {v : Value} {ty : FieldType} (hz : xg_z G ≤ s0.size) (ha : ws[i0]? = some (a, .inr (κ, fs))) (F : xw_fl own idx κ j) (hp : ∃ r : vw_C, vwCl[κ]? = some r ∧ (r.2.1 j).2.2.2 = false ∧ parseFieldDescriptor (r.2.1 j).2.2.1 = some ty) (hn : narrow ty v = v) (hfit : fits ty v = true) (hlf : j < fs.length) (d : decode cc pc = .ok (.putfield idx, 3)) (K : zj_X p l e R s m args below meth c G nL cells slots Q (zL G s0 (ws.set i0 (a, .inr (κ, fs.set j v)))) lv (pc + 3) st) : zj_X p l e R s m args below meth c G nL cells slots Q (zL G s0 ws) lv pc (v :: .ref a :: st) :=
  zr_putO C (fun H h => ⟨(h.2.2.1 i0 _ ha).1, Nat.le_trans hz (h.2.2.1 i0 _ ha).2⟩) F hp hn hfit hlf (fun H H1 h z oq e => h.set ha z oq e) d K
end ZL
