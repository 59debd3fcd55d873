section ZX
variable {p : Program} {l : Launch} {e : Env} {R : Room} {s : State} {m : MethodId} {args : Array Value} {below : List Frame} {meth : Method} {c : Code} {G : xw_G} {nL cells slots : Nat} {Q : State → Prop}
variable {cc : ByteArray} {own : String} {pc : Nat} {lv : List (Option Value)} {st : List Value} {Pr : Heap → Prop}
/-- as zL, but for one old cell, x, which holds e -/
def zLx (G : xw_G) (s0 : Heap) (x : Nat) (e : va_E) (ws : va_W) (H : Heap) : Prop := s0.size ≤ H.size ∧ (∀ q : Nat, q < s0.size → q ≠ x → H[q]? = s0[q]?) ∧ x < s0.size ∧ va_at (xg_D G) vwCl (x, e) H ∧ (∀ (i : Nat) (q : Nat × va_E), ws[i]? = some q → va_at (xg_D G) vwCl q H ∧ s0.size ≤ q.1) ∧ ∀ (i j : Nat) (x z : Nat × va_E), ws[i]? = some x → ws[j]? = some z → x.1 = z.1 → i = j
theorem zLx.nil {s0 : Heap} {x : Nat} {e : va_E} (h : va_at (xg_D G) vwCl (x, e) s0) : zLx G s0 x e [] s0 := ⟨Nat.le_refl _, fun _ _ _ => rfl, h.lt, h, fun i q h => by simp at h, fun i j x z h => by simp at h⟩
theorem zLx.new {s0 H H' : Heap} {x9 : Nat} {e9 e : va_E} {ws : va_W} (h : zLx G s0 x9 e9 ws H) (h1 : H'.size = H.size + 1) (h2 : ∀ q : Nat, q < H.size → H'[q]? = H[q]?) (h3 : va_at (xg_D G) vwCl (H.size, e) H') : zLx G s0 x9 e9 ((H.size, e) :: ws) H' := by
  obtain ⟨a1, a2, a5, a6, a3, a4⟩ := h
  refine ⟨by omega, fun q hq hx => (h2 q (by omega)).trans (a2 q hq hx), a5, a6.kept (h2 _ a6.lt), fun i q hi => ?_, fun i j x z hi hj hxz => ?_⟩
  · cases i with
    | zero => cases hi; exact ⟨h3, a1⟩
    | succ i => have h9 := a3 i q hi; exact ⟨h9.1.kept (h2 _ h9.1.lt), h9.2⟩
  · cases i with
    | zero =>
      cases j with
      | zero => rfl
      | succ j => cases hi; have h9 := (a3 j z hj).1.lt; have : H.size = z.1 := hxz; omega
    | succ i =>
      cases j with
      | zero => cases hj; have h9 := (a3 i x hi).1.lt; have : x.1 = H.size := hxz; omega
      | succ j => rw [a4 i j x z hi hj hxz]
theorem zLx.upd {s0 H H' : Heap} {x9 : Nat} {e9 e : va_E} {ws : va_W} (h : zLx G s0 x9 e9 ws H) (h1 : H'.size = H.size) (h2 : ∀ q : Nat, q ≠ x9 → H'[q]? = H[q]?) (h3 : va_at (xg_D G) vwCl (x9, e) H') : zLx G s0 x9 e ws H' := by
  obtain ⟨a1, a2, a5, a6, a3, a4⟩ := h
  exact ⟨by omega, fun q hq hx => (h2 q hx).trans (a2 q hq hx), a5, h3, fun i q hi => ⟨(a3 i q hi).1.kept (h2 _ (by have := (a3 i q hi).2; omega)), (a3 i q hi).2⟩, a4⟩
theorem zx_newi (C : zj_C p s m args meth c G own cc nL) {s0 : Heap} {x9 : Nat} {e9 : va_E} {ws : va_W} {n : Nat} {v : Int32} (hv0 : ¬ v < 0) (hv : v.toNatClampNeg = n) (hb : n * componentBytes .int ≤ 536870912) (hc : cells + 1 ≤ R.cells) (hs : slots + n ≤ R.slots) (hw : Cond.arrayClass .int ∈ lw_g) (d : decode cc pc = .ok (.newarray .int, 2)) (K : ∀ x : Nat, zj_X p l e R s m args below meth c G nL (cells + 1) (slots + n) Q (zLx G s0 x9 e9 ((x, .inl (xg_T G 0, n, .inl (fun _ => 0))) :: ws)) lv (pc + 2) (.ref x :: st)) : zj_X p l e R s m args below meth c G nL cells slots Q (zLx G s0 x9 e9 ws) lv pc (.int v :: st) := by
  refine zr_newR C hv0 hv hb hc hs hw d (fun x => zr_eqH (fun H h => ?_) (K x))
  obtain ⟨⟨H0, h1, h2, h3, h4⟩, h5⟩ := h
  subst h2
  exact h1.new h3 h4 h5
theorem zx_newA (C : zj_C p s m args meth c G own cc nL) {s0 : Heap} {x9 : Nat} {e9 : va_E} {ws : va_W} {n idx : Nat} {v : Int32} (hv0 : ¬ v < 0) (hv : v.toNatClampNeg = n) (hb : n * 4 ≤ 536870912) (hc : cells + 1 ≤ R.cells) (hs : slots + n ≤ R.slots) (hw : Cond.classLink own idx (FieldType.array .int).toString ∈ lw_g) (d : decode cc pc = .ok (.anewarray idx, 3)) (K : ∀ x : Nat, zj_X p l e R s m args below meth c G nL (cells + 1) (slots + n) Q (zLx G s0 x9 e9 ((x, .inl (xg_T G 5, n, .inr (.inr (.inr (.inr (fun _ => none)))))) :: ws)) lv (pc + 3) (.ref x :: st)) : zj_X p l e R s m args below meth c G nL cells slots Q (zLx G s0 x9 e9 ws) lv pc (.int v :: st) := by
  refine zr_newA C hv0 hv hb hc hs hw d (fun x => zr_eqH (fun H h => ?_) (K x))
  obtain ⟨⟨H0, h1, h2, h3, h4⟩, h5⟩ := h
  subst h2
  exact h1.new h3 h4 h5
theorem zx_newF (C : zj_C p s m args meth c G own cc nL) {s0 : Heap} {x9 : Nat} {e9 : va_E} {ws : va_W} {n idx : Nat} {v : Int32} (hv0 : ¬ v < 0) (hv : v.toNatClampNeg = n) (hb : n * 4 ≤ 536870912) (hc : cells + 1 ≤ R.cells) (hs : slots + n ≤ R.slots) (hw : Cond.classLink own idx RX6 ∈ lw_g) (d : decode cc pc = .ok (.anewarray idx, 3)) (K : ∀ x : Nat, zj_X p l e R s m args below meth c G nL (cells + 1) (slots + n) Q (zLx G s0 x9 e9 ((x, .inl (xg_T G 6, n, .inr (.inr (.inr (.inr (fun _ => none)))))) :: ws)) lv (pc + 3) (.ref x :: st)) : zj_X p l e R s m args below meth c G nL cells slots Q (zLx G s0 x9 e9 ws) lv pc (.int v :: st) := by
  refine zr_newF C hv0 hv hb hc hs hw d (fun x => zr_eqH (fun H h => ?_) (K x))
  obtain ⟨⟨H0, h1, h2, h3, h4⟩, h5⟩ := h
  subst h2
  exact h1.new h3 h4 h5
theorem zx_put (C : zj_C p s m args meth c G own cc nL) {s0 : Heap} {ws : va_W} {x9 κ j idx : Nat} {fs : List Value} {v : Value} {ty : FieldType} (hz : xg_z G ≤ x9) (F : xw_fl own idx κ j) (hp : ∃ r : vw_C, vwCl[κ]? = some r ∧ (r.2.1 j).2.2.2 = false ∧ parseFieldDescriptor (r.2.1 j).2.2.1 = some ty) (hn : narrow ty v = v) (hfit : fits ty v = true) (hlf : j < fs.length) (d : decode cc pc = .ok (.putfield idx, 3)) (K : zj_X p l e R s m args below meth c G nL cells slots Q (zLx G s0 x9 (.inr (κ, fs.set j v)) ws) lv (pc + 3) st) : zj_X p l e R s m args below meth c G nL cells slots Q (zLx G s0 x9 (.inr (κ, fs)) ws) lv pc (v :: .ref x9 :: st) :=
  zr_putO C (fun H h => ⟨h.2.2.2.1, hz⟩) F hp hn hfit hlf (fun H H1 h z oq e => h.upd z oq e) d K
end ZX
/-- what the constructor of the Sim leaves -/
def zX7 (G : xw_G) (x : Nat) (H0 H' : Heap) : Prop := ∃ p d f l w : Nat, zLx G H0 x (.inr (7, [.int 0, .int 0, .ref p, .ref d, .ref f, .ref l, .ref w])) [(w, .inl (xg_T G 0, 0, .inl (fun _ => 0))), (l, .inl (xg_T G 0, 0, .inl (fun _ => 0))), (f, .inl (xg_T G 6, 0, .inr (.inr (.inr (.inr (fun _ => none)))))), (d, .inl (xg_T G 5, 0, .inr (.inr (.inr (.inr (fun _ => none)))))), (p, .inl (xg_T G 0, 0, .inl (fun _ => 0)))] H'
set_option maxHeartbeats 4000000 in
set_option maxRecDepth 100000 in
theorem zcX7_init (l : Launch) (G : xw_G) {x : Nat} (hzx : xg_z G ≤ x) : zc_G l G yX7_init cX7_init 1 none 1 12 5 0 [.ref x] (fun H => va_at (xg_D G) vwCl (x, .inr (7, [.int 0, .int 0, .null, .null, .null, .null, .null])) H) (fun H0 rv H' => rv = none ∧ zX7 G x H0 H') := by
  refine zc_of (by decide +kernel) rfl (Nat.le_of_ble_eq_true rfl) ?_
  intro p9 e s m args below meth c C hr hP
  have C : zj_C p9 s m args meth c G RX7 cX7_init 1 := C
  refine zr_eqH (Pr2 := zLx G s.heap x (.inr (7, [.int 0, .int 0, .null, .null, .null, .null, .null])) []) (fun H e => by rw [e]; exact zLx.nil hP) ?_
  show zj_X p9 l e { frames := 1, cells := 5, slots := 0, locals := 12 } s m args below meth c G 1 0 0 _ _ [some (.ref x)] 0 []
  refine zr_aload_n C dX7_init_0 rfl ?_
  refine zr_obj C ⟨lw_g_in (by decide +kernel) (by decide +kernel), lw_g_in (by decide +kernel) (by decide +kernel), lw_g_in (by decide +kernel) (by decide +kernel)⟩ dX7_init_1 (by show 1 ≤ 1; omega) (by show 0 + 12 ≤ 12; omega) ?_
  refine zr_aload_n C dX7_init_4 rfl ?_
  refine zr_iconst (v := 0) C dX7_init_5 (by decide) ?_
  refine zx_newi (n := 0) C (by decide) (by decide) (by decide) (by show 0 + 1 ≤ 5; omega) (by show 0 + 0 ≤ 0; omega) (lw_g_in (by decide +kernel) (by decide +kernel)) dX7_init_6 (fun p => ?_)
  refine zx_put C hzx fl_RX7_7 ⟨_, rfl, rfl, by decide +kernel⟩ (ty := (.array .int)) rfl rfl (by show 2 < 7; omega) dX7_init_8 ?_
  refine zr_aload_n C dX7_init_11 rfl ?_
  refine zr_iconst (v := 0) C dX7_init_12 (by decide) ?_
  refine zx_newA (n := 0) C (by decide) (by decide) (by decide) (by show 0 + 1 + 1 ≤ 5; omega) (by show 0 + 0 + 0 ≤ 0; omega) (lw_g_in (by decide +kernel) (by decide +kernel)) dX7_init_13 (fun d => ?_)
  refine zx_put C hzx fl_RX7_14 ⟨_, rfl, rfl, by decide +kernel⟩ (ty := (.array (.array .int))) rfl rfl (by show 3 < 7; omega) dX7_init_16 ?_
  refine zr_aload_n C dX7_init_19 rfl ?_
  refine zr_iconst (v := 0) C dX7_init_20 (by decide) ?_
  refine zx_newF (n := 0) C (by decide) (by decide) (by decide) (by show 0 + 1 + 1 + 1 ≤ 5; omega) (by show 0 + 0 + 0 + 0 ≤ 0; omega) (lw_g_in (by decide +kernel) (by decide +kernel)) dX7_init_21 (fun f => ?_)
  refine zx_put C hzx fl_RX7_20 ⟨_, rfl, rfl, by decide +kernel⟩ (ty := (.array (.object RX6))) rfl rfl (by show 4 < 7; omega) dX7_init_24 ?_
  refine zr_aload_n C dX7_init_27 rfl ?_
  refine zr_iconst (v := 0) C dX7_init_28 (by decide) ?_
  refine zx_newi (n := 0) C (by decide) (by decide) (by decide) (by show 0 + 1 + 1 + 1 + 1 ≤ 5; omega) (by show 0 + 0 + 0 + 0 + 0 ≤ 0; omega) (lw_g_in (by decide +kernel) (by decide +kernel)) dX7_init_29 (fun l_ => ?_)
  refine zx_put C hzx fl_RX7_24 ⟨_, rfl, rfl, by decide +kernel⟩ (ty := (.array .int)) rfl rfl (by show 5 < 7; omega) dX7_init_31 ?_
  refine zr_aload_n C dX7_init_34 rfl ?_
  refine zr_iconst (v := 0) C dX7_init_35 (by decide) ?_
  refine zx_newi (n := 0) C (by decide) (by decide) (by decide) (by show 0 + 1 + 1 + 1 + 1 + 1 ≤ 5; omega) (by show 0 + 0 + 0 + 0 + 0 + 0 ≤ 0; omega) (lw_g_in (by decide +kernel) (by decide +kernel)) dX7_init_36 (fun w => ?_)
  refine zx_put C hzx fl_RX7_27 ⟨_, rfl, rfl, by decide +kernel⟩ (ty := (.array .int)) rfl rfl (by show 6 < 7; omega) dX7_init_38 ?_
  exact zr_ret0 C hr (by omega) (by omega) dX7_init_41 (fun H h => ⟨rfl, p, d, f, l_, w, h⟩)
