theorem xs_ix {i n : Nat} (h : i < n) (hn : n < 2 ^ 31) : xo_ix (nI i) n = true := by
  unfold xo_ix
  rw [nI_toInt (by omega), Bool.and_eq_true, decide_eq_true_eq, decide_eq_true_eq]
  omega
section ZN
variable {p : Program} {l : Launch} {e : Env} {R : Room} {s : State} {m : MethodId} {args : Array Value} {below : List Frame} {meth : Method} {c : Code} {G : xw_G} {nL cells slots : Nat} {Q : State → Prop}
variable {cc : ByteArray} {own : String} {pc : Nat} {lv : List (Option Value)} {st : List Value} {Pr : Heap → Prop}
/-- a row of ints at a -/
abbrev zI (G : xw_G) (a n : Nat) (g : Nat → Int32) (H : Heap) : Prop := va_at (xg_D G) vwCl (a, .inl (xg_T G 0, n, .inl g)) H
theorem zI.congr {a n : Nat} {f g : Nat → Int32} {H : Heap} (h : zI G a n f H) (hfg : ∀ j, j < n → f j = g j) : zI G a n g H := by
  have h1 : H[a]? = some (vp_cell (xg_T G 0) (n, .inl f)) := h
  show H[a]? = some (vp_cell (xg_T G 0) (n, .inl g))
  rw [h1, vp_cell_i, vp_cell_i, arrV_congr (fun j hj => by rw [hfg j hj])]
theorem zr_ialdO (C : zj_C p s m args meth c G own cc nL) {a n : Nat} {g : Nat → Int32} {i : Int32} (ha : ∀ H, Pr H → zI G a n g H) (hin : vp_in i n) (d : decode cc pc = .ok (.iaload, 1)) (K : zj_X p l e R s m args below meth c G nL cells slots Q Pr lv (pc + 1) (.int (g i.toNatClampNeg) :: st)) : zj_X p l e R s m args below meth c G nL cells slots Q Pr lv pc (.int i :: .ref a :: st) := fun H locs ls hP hS hL => va_iald (D := xg_D G) (cl := vwCl) (ws := [(a, .inl (xg_T G 0, n, .inl g))]) C.1 C.2.1 C.2.2.2.2.2.1 (va_P1 (ha H hP)) 0 0 rfl rfl hin d (K H locs ls hP hS hL)
theorem zr_alenO (C : zj_C p s m args meth c G own cc nL) {a n : Nat} {g : Nat → Int32} (ha : ∀ H, Pr H → zI G a n g H) (d : decode cc pc = .ok (.arraylength, 1)) (K : zj_X p l e R s m args below meth c G nL cells slots Q Pr lv (pc + 1) (.int (nI n) :: st)) : zj_X p l e R s m args below meth c G nL cells slots Q Pr lv pc (.ref a :: st) := fun H locs ls hP hS hL => va_alen (D := xg_D G) (cl := vwCl) (ws := [(a, .inl (xg_T G 0, n, .inl g))]) C.1 C.2.1 C.2.2.2.2.2.1 (va_P1 (ha H hP)) 0 0 rfl rfl rfl d (K H locs ls hP hS hL)
theorem zr_iastO (C : zj_C p s m args meth c G own cc nL) {Pr2 : Heap → Prop} {a n : Nat} {g : Nat → Int32} {i v : Int32} (ha : ∀ H, Pr H → zI G a n g H ∧ xg_B G a) (hin : vp_in i n) (h2 : ∀ H H1 : Heap, Pr H → H1.size = H.size → (∀ q : Nat, q ≠ a → H1[q]? = H[q]?) → zI G a n (upd g i.toNatClampNeg v) H1 → Pr2 H1) (d : decode cc pc = .ok (.iastore, 1)) (K : zj_X p l e R s m args below meth c G nL cells slots Q Pr2 lv (pc + 1) st) : zj_X p l e R s m args below meth c G nL cells slots Q Pr lv pc (.int v :: .int i :: .ref a :: st) := by
  intro H locs ls hP hS hL
  refine W.iast C.1 C.2.1 (ha H hP).1 ((C.2.2.2.2.2.1.2 0 _ rfl).1 n (fun j => .int (g j))) (fun q => by cases q) (by show ¬ (i < 0 ∨ (arrV _ _ _).slots.size ≤ _); rw [arrV_size]; exact hin) rfl rfl d fun H1 e z oq => ?_
  refine K H1 _ ls (h2 H H1 hP z oq ?_) (hS.put z oq (ha H hP).2) hL
  show H1[a]? = some (vp_cell _ _)
  rw [e]
  rw [vp_cell_i, vp_cell_i, arrV_store]
  congr 2
  funext b
  by_cases hb : b = i.toNatClampNeg
  · subst hb
    simp [updV, upd]
  · simp [updV, upd, hb]
/-- behind a making: a cell more -/
def zNew (Pr : Heap → Prop) (x : Nat) (H' : Heap) (H : Heap) : Prop := Pr H ∧ x = H.size ∧ H'.size = H.size + 1 ∧ ∀ q : Nat, q < H.size → H'[q]? = H[q]?
theorem zr_newR (C : zj_C p s m args meth c G own cc nL) {n : Nat} {v : Int32} (hv0 : ¬ v < 0) (hv : v.toNatClampNeg = n) (hb : n * componentBytes .int ≤ 536870912) (hc : cells + 1 ≤ R.cells) (hs : slots + n ≤ R.slots) (hw : Cond.arrayClass .int ∈ lw_g) (d : decode cc pc = .ok (.newarray .int, 2)) (K : ∀ x : Nat, zj_X p l e R s m args below meth c G nL (cells + 1) (slots + n) Q (fun H' => (∃ H, zNew Pr x H' H) ∧ zI G x n (fun _ => 0) H') lv (pc + 2) (.ref x :: st)) : zj_X p l e R s m args below meth c G nL cells slots Q Pr lv pc (.int v :: st) := by
  intro H locs ls hP hS hL
  refine va_newaK C.1 C.2.1 (atype := .int) (C.2.2.2.2.1 _ hw) rfl d rfl hv0 hv hb hc hs rfl (fun H' cA e1 e2 e3 e4 e5 => ?_)
  have h2 : s.vm.findClass ("[" ++ FieldType.int.toString) = some (xg_T G 0) := (C.2.2.2.2.2.1.2 0 _ (show (xw_tys G)[0]? = some (xg_T G 0, .int) from rfl)).2
  have hcA : cA = xg_T G 0 := Option.some.inj (e5.symm.trans h2)
  refine K H.size H' locs ls ⟨⟨H, hP, rfl, e2, e3⟩, ?_⟩ ⟨Nat.le_trans hS.1 (by omega), fun q g1 g2 => (e3 q (Nat.lt_of_lt_of_le g1 hS.1)).trans (hS.2.1 q g1 g2), hS.2.2⟩ hL
  show H'[H.size]? = some (vp_cell _ _)
  rw [vp_cell_i, ← hcA]
  exact e1
end ZN
set_option maxHeartbeats 4000000 in
theorem zc_with (l : Launch) (G : xw_G) {a n : Nat} {g : Nat → Int32} {v : Int32} (hn : n ≤ 12) : zc_G l G yX7_with cX7_with 4 (some (.array .int)) 0 0 1 13 [.ref a, .int v] (zI G a n g) (fun H0 rv H' => ∃ x, rv = some (.ref x) ∧ H0.size ≤ x ∧ (∀ q : Nat, q < H0.size → H'[q]? = H0[q]?) ∧ zI G x (n + 1) (upd g n v) H') := by
  refine zc_of (by decide +kernel) rfl (Nat.le_of_ble_eq_true rfl) ?_
  intro p e s m args below meth c C hr hP
  have C : zj_C p s m args meth c G RX7 cX7_with 4 := C
  have hlt : a < s.heap.size := hP.lt
  show zj_X p l e { frames := 0, cells := 1, slots := 13, locals := 0 } s m args below meth c G 4 0 0 _ (fun H => H = s.heap) [some (.ref a), some (.int v), none, none] 0 []
  refine zr_aload_n C dX7_with_0 rfl ?_
  refine zr_alenO C (fun H h => by rw [h]; exact hP) dX7_with_1 ?_
  refine zr_iconst (v := 1) C dX7_with_2 (by decide) ?_
  refine zr_iadd C dX7_with_3 ?_
  refine zr_newR (n := n + 1) C (by rw [nI_1]; exact nI_pos (by omega)) (by rw [nI_1]; exact nI_clamp (by omega)) (by show (n + 1) * 4 ≤ _; omega) (by show 0 + 1 ≤ 1; omega) (by show 0 + (n + 1) ≤ 13; omega) (lw_g_in (by decide +kernel) (by decide +kernel)) dX7_with_4 ?_
  intro x
  refine zr_astore_n C dX7_with_6 rfl (by decide) ?_
  refine zr_iconst (v := 0) C dX7_with_7 (by decide) ?_
  refine zr_istore_n C dX7_with_8 rfl (by decide) ?_
  have key : ∀ (k i : Nat) (f : Nat → Int32), n - i = k → i ≤ n → (∀ j, j < i → f j = g j) → zj_X p l e { frames := 0, cells := 1, slots := 13, locals := 0 } s m args below meth c G 4 (0 + 1) (0 + (n + 1)) (MQ below (zc_Q G (fun H0 rv H' => ∃ x, rv = some (.ref x) ∧ H0.size ≤ x ∧ (∀ q : Nat, q < H0.size → H'[q]? = H0[q]?) ∧ zI G x (n + 1) (upd g n v) H')) args s 1 13 (xg_B G)) (fun H => (∀ q : Nat, q < s.heap.size → H[q]? = s.heap[q]?) ∧ s.heap.size ≤ x ∧ zI G x (n + 1) f H) [some (.ref a), some (.int v), some (.ref x), some (.int (nI i))] 9 [] := by
    intro k
    induction k with
    | zero =>
      intro i f h1 h2 h3
      have hi : i = n := by omega
      subst hi
      refine zr_iload_n C dX7_with_9 rfl ?_
      refine zr_aload_n C dX7_with_10 rfl ?_
      refine zr_alenO C (fun H h => hP.kept (h.1 a hlt)) dX7_with_11 ?_
      refine zr_icmp_ge (tgt := 27) C dX7_with_12 (by decide) (α := Unit) (A := some ()) (B := none) (r := some ()) (if_pos (nI_le (Nat.le_refl _) (by omega))) (fun _ => ?_) (fun z => by cases z)
      refine zr_aload_n C dX7_with_27 rfl ?_
      refine zr_aload_n C dX7_with_28 rfl ?_
      refine zr_alenO C (fun H h => hP.kept (h.1 a hlt)) dX7_with_29 ?_
      refine zr_iload_n C dX7_with_30 rfl ?_
      refine zr_iastO (Pr2 := fun H => (∀ q : Nat, q < s.heap.size → H[q]? = s.heap[q]?) ∧ s.heap.size ≤ x ∧ zI G x (i + 1) (upd f (nI i).toNatClampNeg v) H) C (fun H h => ⟨h.2.2, Nat.le_trans C.2.2.2.2.2.2.2.2.2.2.1 h.2.1⟩) (xo_ix_in (xs_ix (by omega) (by omega))) (fun H H1 h z oq e => ⟨fun q hq => (oq q (by have := h.2.1; omega)).trans (h.1 q hq), h.2.1, e⟩) dX7_with_31 ?_
      refine zr_aload_n C dX7_with_32 rfl ?_
      refine zr_retR C hr (Or.inr ⟨_, rfl⟩) (Or.inr ⟨_, rfl⟩) (by omega) (by omega) dX7_with_33 (fun H h => ⟨x, rfl, h.2.1, h.1, h.2.2.congr (fun j hj => ?_)⟩)
      rw [nI_clamp (by omega)]
      unfold upd
      by_cases hj2 : j = i
      · rw [if_pos hj2, if_pos hj2]
      · rw [if_neg hj2, if_neg hj2]
        exact h3 j (by omega)
    | succ k ih =>
      intro i f h1 h2 h3
      refine zr_iload_n C dX7_with_9 rfl ?_
      refine zr_aload_n C dX7_with_10 rfl ?_
      refine zr_alenO C (fun H h => hP.kept (h.1 a hlt)) dX7_with_11 ?_
      refine zr_icmp_ge (tgt := 27) C dX7_with_12 (by decide) (α := Unit) (A := none) (B := some ()) (r := some ()) (if_neg (nI_ge (by omega) (by omega))) (fun z => by cases z) (fun _ => ?_)
      refine zr_aload_n C dX7_with_15 rfl ?_
      refine zr_iload_n C dX7_with_16 rfl ?_
      refine zr_aload_n C dX7_with_17 rfl ?_
      refine zr_iload_n C dX7_with_18 rfl ?_
      refine zr_ialdO C (fun H h => hP.kept (h.1 a hlt)) (xo_ix_in (xs_ix (by omega) (by omega))) dX7_with_19 ?_
      refine zr_iastO (Pr2 := fun H => (∀ q : Nat, q < s.heap.size → H[q]? = s.heap[q]?) ∧ s.heap.size ≤ x ∧ zI G x (n + 1) (upd f (nI i).toNatClampNeg (g (nI i).toNatClampNeg)) H) C (fun H h => ⟨h.2.2, Nat.le_trans C.2.2.2.2.2.2.2.2.2.2.1 h.2.1⟩) (xo_ix_in (xs_ix (by omega) (by omega))) (fun H H1 h z oq e => ⟨fun q hq => (oq q (by have := h.2.1; omega)).trans (h.1 q hq), h.2.1, e⟩) dX7_with_20 ?_
      refine zr_iinc (v := 1) C dX7_with_21 rfl (by decide) rfl (by decide) ?_
      refine zr_goto (tgt := 9) C dX7_with_24 (by decide) ?_
      rw [nI_1, nI_clamp (by omega)]
      refine ih (i + 1) _ (by omega) (by omega) (fun j hj => ?_)
      unfold upd
      by_cases hj2 : j = i
      · rw [if_pos hj2, hj2]
      · rw [if_neg hj2]
        exact h3 j (by omega)
  exact zr_eqH (fun H h => by
    obtain ⟨⟨H0, h1, h2, h3, h4⟩, h5⟩ := h
    subst h1
    exact ⟨h4, by omega, h5⟩) (key n 0 _ (by omega) (by omega) (fun j hj => by omega))
theorem zc_without (l : Launch) (G : xw_G) {a n b : Nat} {g : Nat → Int32} (hn : n + 1 ≤ 13) (hb : b < n + 1) : zc_G l G yX7_without cX7_without 4 (some (.array .int)) 0 0 1 13 [.ref a, .int (nI b)] (zI G a (n + 1) g) (fun H0 rv H' => ∃ x, rv = some (.ref x) ∧ H0.size ≤ x ∧ (∀ q : Nat, q < H0.size → H'[q]? = H0[q]?) ∧ zI G x n (fun j => if j < b then g j else g (j + 1)) H') := by
  refine zc_of (by decide +kernel) rfl (Nat.le_of_ble_eq_true rfl) ?_
  intro p e s m args below meth c C hr hP
  have C : zj_C p s m args meth c G RX7 cX7_without 4 := C
  have hlt : a < s.heap.size := hP.lt
  show zj_X p l e { frames := 0, cells := 1, slots := 13, locals := 0 } s m args below meth c G 4 0 0 _ (fun H => H = s.heap) [some (.ref a), some (.int (nI b)), none, none] 0 []
  refine zr_aload_n C dX7_without_0 rfl ?_
  refine zr_alenO C (fun H h => by rw [h]; exact hP) dX7_without_1 ?_
  refine zr_iconst (v := 1) C dX7_without_2 (by decide) ?_
  refine zr_isub C dX7_without_3 ?_
  rw [nI_pred]
  refine zr_newR (n := n) C (nI_pos (by omega)) (nI_clamp (by omega)) (by show n * 4 ≤ _; omega) (by show 0 + 1 ≤ 1; omega) (by show 0 + n ≤ 13; omega) (lw_g_in (by decide +kernel) (by decide +kernel)) dX7_without_4 ?_
  intro x
  refine zr_astore_n C dX7_without_6 rfl (by decide) ?_
  refine zr_iconst (v := 0) C dX7_without_7 (by decide) ?_
  refine zr_istore_n C dX7_without_8 rfl (by decide) ?_
  have key : ∀ (k i : Nat) (f : Nat → Int32), n - i = k → i ≤ n → (∀ j, j < i → f j = if j < b then g j else g (j + 1)) → zj_X p l e { frames := 0, cells := 1, slots := 13, locals := 0 } s m args below meth c G 4 (0 + 1) (0 + n) (MQ below (zc_Q G (fun H0 rv H' => ∃ x, rv = some (.ref x) ∧ H0.size ≤ x ∧ (∀ q : Nat, q < H0.size → H'[q]? = H0[q]?) ∧ zI G x n (fun j => if j < b then g j else g (j + 1)) H')) args s 1 13 (xg_B G)) (fun H => (∀ q : Nat, q < s.heap.size → H[q]? = s.heap[q]?) ∧ s.heap.size ≤ x ∧ zI G x n f H) [some (.ref a), some (.int (nI b)), some (.ref x), some (.int (nI i))] 9 [] := by
    intro k
    induction k with
    | zero =>
      intro i f h1 h2 h3
      have hi : i = n := by omega
      subst hi
      refine zr_iload_n C dX7_without_9 rfl ?_
      refine zr_aload_n C dX7_without_10 rfl ?_
      refine zr_alenO C (fun H h => h.2.2) dX7_without_11 ?_
      refine zr_icmp_ge (tgt := 38) C dX7_without_12 (by decide) (α := Unit) (A := some ()) (B := none) (r := some ()) (if_pos (nI_le (Nat.le_refl _) (by omega))) (fun _ => ?_) (fun z => by cases z)
      refine zr_aload_n C dX7_without_38 rfl ?_
      exact zr_retR C hr (Or.inr ⟨_, rfl⟩) (Or.inr ⟨_, rfl⟩) (by omega) (by omega) dX7_without_39 (fun H h => ⟨x, rfl, h.2.1, h.1, h.2.2.congr h3⟩)
    | succ k ih =>
      intro i f h1 h2 h3
      refine zr_iload_n C dX7_without_9 rfl ?_
      refine zr_aload_n C dX7_without_10 rfl ?_
      refine zr_alenO C (fun H h => h.2.2) dX7_without_11 ?_
      refine zr_icmp_ge (tgt := 38) C dX7_without_12 (by decide) (α := Unit) (A := none) (B := some ()) (r := some ()) (if_neg (nI_ge (by omega) (by omega))) (fun z => by cases z) (fun _ => ?_)
      refine zr_aload_n C dX7_without_15 rfl ?_
      refine zr_iload_n C dX7_without_16 rfl ?_
      refine zr_aload_n C dX7_without_17 rfl ?_
      refine zr_iload_n C dX7_without_18 rfl ?_
      refine zr_iload_n C dX7_without_19 rfl ?_
      have fin : ∀ t : Nat, t < n + 1 → (∀ j, j < i + 1 → upd f i (g t) j = if j < b then g j else g (j + 1)) → zj_X p l e { frames := 0, cells := 1, slots := 13, locals := 0 } s m args below meth c G 4 (0 + 1) (0 + n) (MQ below (zc_Q G (fun H0 rv H' => ∃ x, rv = some (.ref x) ∧ H0.size ≤ x ∧ (∀ q : Nat, q < H0.size → H'[q]? = H0[q]?) ∧ zI G x n (fun j => if j < b then g j else g (j + 1)) H')) args s 1 13 (xg_B G)) (fun H => (∀ q : Nat, q < s.heap.size → H[q]? = s.heap[q]?) ∧ s.heap.size ≤ x ∧ zI G x n f H) [some (.ref a), some (.int (nI b)), some (.ref x), some (.int (nI i))] 30 [.int (nI t), .ref a, .int (nI i), .ref x] := by
        intro t ht hf
        refine zr_ialdO C (fun H h => hP.kept (h.1 a hlt)) (xo_ix_in (xs_ix ht (by omega))) dX7_without_30 ?_
        refine zr_iastO (Pr2 := fun H => (∀ q : Nat, q < s.heap.size → H[q]? = s.heap[q]?) ∧ s.heap.size ≤ x ∧ zI G x n (upd f (nI i).toNatClampNeg (g (nI t).toNatClampNeg)) H) C (fun H h => ⟨h.2.2, Nat.le_trans C.2.2.2.2.2.2.2.2.2.2.1 h.2.1⟩) (xo_ix_in (xs_ix (by omega) (by omega))) (fun H H1 h z oq e => ⟨fun q hq => (oq q (by have := h.2.1; omega)).trans (h.1 q hq), h.2.1, e⟩) dX7_without_31 ?_
        refine zr_iinc (v := 1) C dX7_without_32 rfl (by decide) rfl (by decide) ?_
        refine zr_goto (tgt := 9) C dX7_without_35 (by decide) ?_
        rw [nI_1, nI_clamp (by omega), nI_clamp (by omega)]
        exact ih (i + 1) _ (by omega) (by omega) hf
      by_cases hib : i < b
      · refine zr_icmp_ge (tgt := 27) C dX7_without_20 (by decide) (α := Unit) (A := none) (B := some ()) (r := some ()) (if_neg (nI_ge hib (by omega))) (fun z => by cases z) (fun _ => ?_)
        refine zr_iload_n C dX7_without_23 rfl ?_
        refine zr_goto (tgt := 30) C dX7_without_24 (by decide) ?_
        refine fin i (by omega) (fun j hj => ?_)
        unfold upd
        by_cases hj2 : j = i
        · rw [if_pos hj2, if_pos (by omega), hj2]
        · rw [if_neg hj2]
          exact h3 j (by omega)
      · refine zr_icmp_ge (tgt := 27) C dX7_without_20 (by decide) (α := Unit) (A := some ()) (B := none) (r := some ()) (if_pos (nI_le (by omega) (by omega))) (fun _ => ?_) (fun z => by cases z)
        refine zr_iload_n C dX7_without_27 rfl ?_
        refine zr_iconst (v := 1) C dX7_without_28 (by decide) ?_
        refine zr_iadd C dX7_without_29 ?_
        rw [nI_1]
        refine fin (i + 1) (by omega) (fun j hj => ?_)
        unfold upd
        by_cases hj2 : j = i
        · rw [if_pos hj2, if_neg (by omega), hj2]
        · rw [if_neg hj2]
          exact h3 j (by omega)
  exact zr_eqH (fun H h => by
    obtain ⟨⟨H0, h1, h2, h3, h4⟩, h5⟩ := h
    subst h1
    exact ⟨h4, by omega, h5⟩) (key n 0 _ (by omega) (by omega) (fun j hj => by omega))
