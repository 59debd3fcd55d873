section ZF
variable {p : Program} {l : Launch} {e : Env} {R : Room} {s : State} {m : MethodId} {args : Array Value} {below : List Frame} {meth : Method} {c : Code} {G : xw_G} {nL cells slots : Nat} {Q : State → Prop}
variable {cc : ByteArray} {own : String} {pc : Nat} {lv : List (Option Value)} {st : List Value} {Pr : Heap → Prop}
/-- what the constructor of the law's fiber leaves -/
def zX6 (G : xw_G) (x : Nat) (H0 H' : Heap) : Prop := ∃ a b : Nat, H0.size ≤ a ∧ a < b ∧ b < H'.size ∧ (∀ q : Nat, q < H0.size → q ≠ x → H'[q]? = H0[q]?) ∧ va_at (xg_D G) vwCl (a, .inl (xg_T G 5, 0, .inr (.inr (.inr (.inr (fun _ => none)))))) H' ∧ zI G b 0 (fun _ => 0) H' ∧ va_at (xg_D G) vwCl (x, .inr (6, [.ref a, .ref b, .int 0, .int 0, .int 5, .int 0, .int 0, .int 0])) H'
theorem zr_goI (C : zj_C p s m args meth c G own cc nL) {a n na idx fr lo mc ms : Nat} {y : MethodName} {b : ByteArray} {As : List Value} {Pq : Heap → Prop} {Po : Heap → Option Value → Heap → Prop} (hc : xv_ci own idx y b n na) (hM : zc_G l G y b n none fr lo mc ms (.ref a :: As) Pq Po) (hq : ∀ H, Pr H → Pq H) (hn : As.length = na) (hR : fr + 1 ≤ R.frames ∧ 8 + (n + 11) + lo ≤ R.locals) (hst : (st.map fun v => v.category).sum ≤ 8) (hcs : cells + mc ≤ R.cells ∧ slots + ms ≤ R.slots) (d : decode cc pc = .ok (.invokespecial idx, 3)) (K : ∀ rv, zj_X p l e R s m args below meth c G nL (cells + mc) (slots + ms) Q (zA G Pr Po rv) lv (pc + 3) (rv.toList ++ st)) : zj_X p l e R s m args below meth c G nL cells slots Q Pr lv pc (As.reverse ++ .ref a :: st) := by
  intro H locs ls hP hS hL
  obtain ⟨h1, h2, h3, h4, h5, h6⟩ := hc
  have hts := C.2.2.2.2.1
  have hG : GoodIn lw_g (.code y b n none :: lw_g) := lw_g_good fun w hw => by
    rcases List.mem_cons.mp hw with rfl | hw
    · exact h4
    · exact hw
  have hpre : PreS s H (va_Pc (.ref a :: As) (zP G Pq)) (.ref a :: As) := ⟨zT_blind, fun U hU hW => ⟨rfl, by rw [hU]; exact hq H hP, zj_T C hS hU hW⟩⟩
  have hrun : va_Run p l e R s m args below meth c H locs cells slots mc ms (F0 m pc ls (As.reverse ++ .ref a :: st)) st (zc_Q G Po (Value.ref a :: As).toArray) (xg_B G) := by
    rcases h1 with h1 | ⟨host, h1⟩
    · exact va_runI ⟨C.1, C.2.1, C.2.2.1, C.2.2.2.1, hts⟩ hM (cwI na hts hG rfl rfl rfl (hts _ h3) (hts _ h1) (hts _ h2) h5 h6 hR) hpre rfl hn hL.1 rfl (lv_room hst) d hcs
    · exact va_runIN ⟨C.1, C.2.1, C.2.2.1, C.2.2.2.1, hts⟩ hM ⟨va_cnB na hts hG rfl rfl rfl (C.2.2.2.2.2.2.2.2.1.1 _ h1) (hts _ h3) h6 hR, h5, hts _ h2⟩ hpre rfl hn hL.1 rfl (lv_room hst) d hcs
  exact zr_fin (Pq := Pq) hP hS hL hrun K
theorem zL.X6 {s0 H H' : Heap} {ws : va_W} {x : Nat} (h : zL G s0 ((x, .inr (6, [.null, .null, .int 0, .int 0, .int 0, .int 0, .int 0, .int 0])) :: ws) H) (hx : zX6 G x H H') : ∃ a b : Nat, zL G s0 ((b, .inl (xg_T G 0, 0, .inl (fun _ => 0))) :: (a, .inl (xg_T G 5, 0, .inr (.inr (.inr (.inr (fun _ => none)))))) :: (x, .inr (6, [.ref a, .ref b, .int 0, .int 0, .int 5, .int 0, .int 0, .int 0])) :: ws) H' := by
  obtain ⟨a, b, h1, h2, h3, h4, h5, h6, h7⟩ := hx
  obtain ⟨a1, a2, a3, a4⟩ := h
  have hxs : s0.size ≤ x := (a3 0 _ rfl).2
  have hxl : x < H.size := (a3 0 _ rfl).1.lt
  have hw : ∀ (i : Nat) (q : Nat × va_E), ws[i]? = some q → va_at (xg_D G) vwCl q H' ∧ s0.size ≤ q.1 ∧ q.1 < H.size ∧ q.1 ≠ x := fun i q hi => by
    have h9 := a3 (i + 1) q hi
    have hne : q.1 ≠ x := fun z => absurd (a4 (i + 1) 0 q _ hi rfl z) (by omega)
    exact ⟨h9.1.kept (h4 _ h9.1.lt hne), h9.2, h9.1.lt, hne⟩
  refine ⟨a, b, by omega, fun q hq => (h4 q (by omega) (by omega)).trans (a2 q hq), fun i q hi => ?_, fun i j y z hi hj hyz => ?_⟩
  · match i, hi with
    | 0, hi => cases hi; exact ⟨h6, by show s0.size ≤ b; omega⟩
    | 1, hi => cases hi; exact ⟨h5, by show s0.size ≤ a; omega⟩
    | 2, hi => cases hi; exact ⟨h7, hxs⟩
    | i + 3, hi => have h9 := hw i q hi; exact ⟨h9.1, h9.2.1⟩
  · have cls : ∀ (i : Nat) (q : Nat × va_E), ((b, (.inl (xg_T G 0, 0, .inl (fun _ => 0)) : va_E)) :: (a, .inl (xg_T G 5, 0, .inr (.inr (.inr (.inr (fun _ => none)))))) :: (x, .inr (6, [.ref a, .ref b, .int 0, .int 0, .int 5, .int 0, .int 0, .int 0])) :: ws)[i]? = some q → (i = 0 ∧ q.1 = b) ∨ (i = 1 ∧ q.1 = a) ∨ (i = 2 ∧ q.1 = x) ∨ (3 ≤ i ∧ ws[i - 3]? = some q ∧ q.1 < H.size ∧ q.1 ≠ x) := fun i q hi => by
      match i, hi with
      | 0, hi => cases hi; exact Or.inl ⟨rfl, rfl⟩
      | 1, hi => cases hi; exact Or.inr (Or.inl ⟨rfl, rfl⟩)
      | 2, hi => cases hi; exact Or.inr (Or.inr (Or.inl ⟨rfl, rfl⟩))
      | i + 3, hi => have h9 := hw i q hi; exact Or.inr (Or.inr (Or.inr ⟨by omega, hi, h9.2.2⟩))
    rcases cls i y hi with ⟨e1, e2⟩ | ⟨e1, e2⟩ | ⟨e1, e2⟩ | ⟨e1, e2, e3, e4⟩ <;> rcases cls j z hj with ⟨f1, f2⟩ | ⟨f1, f2⟩ | ⟨f1, f2⟩ | ⟨f1, f2, f3, f4⟩ <;> first | omega | skip
    have h9 := a4 (i - 3 + 1) (j - 3 + 1) y z e2 f2 hyz
    omega
end ZF
set_option maxHeartbeats 4000000 in
set_option maxRecDepth 100000 in
theorem zcX6_init (l : Launch) (G : xw_G) {x : Nat} (hzx : xg_z G ≤ x) : zc_G l G yX6_init cX6_init 1 none 1 12 2 0 [.ref x] (fun H => va_at (xg_D G) vwCl (x, .inr (6, [.null, .null, .int 0, .int 0, .int 0, .int 0, .int 0, .int 0])) H) (fun H0 rv H' => rv = none ∧ zX6 G x H0 H') := by
  refine zc_of (by decide +kernel) rfl (Nat.le_of_ble_eq_true rfl) ?_
  intro p e s m args below meth c C hr hP
  have C : zj_C p s m args meth c G RX6 cX6_init 1 := C
  have hlt : x < s.heap.size := hP.lt
  show zj_X p l e { frames := 1, cells := 2, slots := 0, locals := 12 } s m args below meth c G 1 0 0 _ (fun H => H = s.heap) [some (.ref x)] 0 []
  refine zr_aload_n C dX6_init_0 rfl ?_
  refine zr_obj C ⟨lw_g_in (by decide +kernel) (by decide +kernel), lw_g_in (by decide +kernel) (by decide +kernel), lw_g_in (by decide +kernel) (by decide +kernel)⟩ dX6_init_1 (by show 1 ≤ 1; omega) (by show 0 + 12 ≤ 12; omega) ?_
  refine zr_aload_n C dX6_init_4 rfl ?_
  refine zr_iconst (v := 0) C dX6_init_5 (by decide) ?_
  refine zr_newA (n := 0) C (by decide) (by decide) (by omega) (by show 0 + 1 ≤ 2; omega) (by show 0 + 0 ≤ 0; omega) (lw_g_in (by decide +kernel) (by decide +kernel)) dX6_init_6 (fun a => ?_)
  refine zr_putO (Pr2 := fun H => a = s.heap.size ∧ H.size = s.heap.size + 1 ∧ (∀ q : Nat, q < s.heap.size → q ≠ x → H[q]? = s.heap[q]?) ∧ va_at (xg_D G) vwCl (a, .inl (xg_T G 5, 0, .inr (.inr (.inr (.inr (fun _ => none)))))) H ∧ va_at (xg_D G) vwCl (x, .inr (6, [.ref a, .null, .int 0, .int 0, .int 0, .int 0, .int 0, .int 0])) H) C (fs := [.null, .null, .int 0, .int 0, .int 0, .int 0, .int 0, .int 0]) (v := .ref a) (ty := .array (.array .int)) (fun H h => ⟨?_, hzx⟩) fl_RX6_9 ⟨_, rfl, rfl, by decide +kernel⟩ rfl rfl (by decide) (fun H H1 h e1 e2 e3 => ?_) dX6_init_9 ?_
  · obtain ⟨⟨H0, rfl, g2, g3, g4⟩, g5⟩ := h
    exact hP.kept (g4 _ hlt)
  · obtain ⟨⟨H0, rfl, g2, g3, g4⟩, g5⟩ := h
    exact ⟨g2, by omega, fun q h1 h2 => (e2 q h2).trans (g4 q h1), g5.kept (e2 _ (by show a ≠ x; omega)), e3⟩
  refine zr_aload_n C dX6_init_12 rfl ?_
  refine zr_iconst (v := 0) C dX6_init_13 (by decide) ?_
  refine zr_newR (n := 0) C (by decide) (by decide) (by decide) (by show 0 + 1 + 1 ≤ 2; omega) (by show 0 + 0 + 0 ≤ 0; omega) (lw_g_in (by decide +kernel) (by decide +kernel)) dX6_init_14 (fun b => ?_)
  refine zr_putO (Pr2 := fun H => a = s.heap.size ∧ b = s.heap.size + 1 ∧ H.size = s.heap.size + 2 ∧ (∀ q : Nat, q < s.heap.size → q ≠ x → H[q]? = s.heap[q]?) ∧ va_at (xg_D G) vwCl (a, .inl (xg_T G 5, 0, .inr (.inr (.inr (.inr (fun _ => none)))))) H ∧ zI G b 0 (fun _ => 0) H ∧ va_at (xg_D G) vwCl (x, .inr (6, [.ref a, .ref b, .int 0, .int 0, .int 0, .int 0, .int 0, .int 0])) H) C (fs := [.ref a, .null, .int 0, .int 0, .int 0, .int 0, .int 0, .int 0]) (v := .ref b) (ty := .array .int) (fun H h => ⟨?_, hzx⟩) fl_RX6_15 ⟨_, rfl, rfl, by decide +kernel⟩ rfl rfl (by show 1 < 8; omega) (fun H H1 h e1 e2 e3 => ?_) dX6_init_16 ?_
  · obtain ⟨⟨H0, ⟨r1, r2, r3, r4, r5⟩, g2, g3, g4⟩, g5⟩ := h
    exact r5.kept (g4 _ (by show x < H0.size; omega))
  · obtain ⟨⟨H0, ⟨r1, r2, r3, r4, r5⟩, g2, g3, g4⟩, g5⟩ := h
    exact ⟨r1, by omega, by omega, fun q h1 h2 => (e2 q h2).trans ((g4 q (by omega)).trans (r3 q h1 h2)), (r4.kept (g4 _ (by show a < H0.size; omega))).kept (e2 _ (by show a ≠ x; omega)), va_at.kept g5 (e2 _ (by show b ≠ x; omega)), e3⟩
  refine zr_aload_n C dX6_init_19 rfl ?_
  refine zr_iconst (v := 5) C dX6_init_20 (by decide) ?_
  refine zr_putO (Pr2 := fun H => a = s.heap.size ∧ b = s.heap.size + 1 ∧ H.size = s.heap.size + 2 ∧ (∀ q : Nat, q < s.heap.size → q ≠ x → H[q]? = s.heap[q]?) ∧ va_at (xg_D G) vwCl (a, .inl (xg_T G 5, 0, .inr (.inr (.inr (.inr (fun _ => none)))))) H ∧ zI G b 0 (fun _ => 0) H ∧ va_at (xg_D G) vwCl (x, .inr (6, [.ref a, .ref b, .int 0, .int 0, .int 5, .int 0, .int 0, .int 0])) H) C (v := .int 5) (ty := .int) (fun H h => ⟨h.2.2.2.2.2.2, hzx⟩) fl_RX6_18 ⟨_, rfl, rfl, by decide +kernel⟩ rfl rfl (by show 4 < 8; omega) (fun H H1 h e1 e2 e3 => ?_) dX6_init_21 ?_
  · obtain ⟨r1, r2, r3, r4, r5, r6, r7⟩ := h
    exact ⟨r1, r2, by omega, fun q h1 h2 => (e2 q h2).trans (r4 q h1 h2), r5.kept (e2 _ (by show a ≠ x; omega)), va_at.kept r6 (e2 _ (by show b ≠ x; omega)), e3⟩
  exact zr_ret0 C hr (by omega) (by omega) dX6_init_24 (fun H h => by
    obtain ⟨r1, r2, r3, r4, r5, r6, r7⟩ := h
    exact ⟨rfl, a, b, by omega, by omega, by omega, r4, r5, r6, r7⟩)
/-- a fiber more -/
def yz_gF (y : yz_Y) : yz_Y := (fun a => if a = 10 + y.2 3 then (fun j => if j = 4 then 5 else 0) else if a = 30 + y.2 3 then (fun _ => 0) else y.1 a, fun a => if a = 3 then y.2 3 + 1 else if a = 20 + y.2 3 then 0 else if a = 30 + y.2 3 then 0 else y.2 a)
def mX7_addFiber (y : yz_Y) : Option (yz_Y × Unit) := if y.2 3 < 8 then some (yz_gF y, ()) else none
theorem yz_gF_on {y : yz_Y} {a : Nat} (hn : y.2 3 < 8) (h : yz_on (yz_gF y) a) (h1 : ¬ (a = 3 ∨ a = 10 + y.2 3 ∨ a = 20 + y.2 3 ∨ a = 30 + y.2 3)) : yz_on y a := by
  refine ⟨?_, h.2⟩
  have he := h.1
  have e : ∀ i, i ≠ 3 → i ≠ 20 + y.2 3 → i ≠ 30 + y.2 3 → (yz_gF y).2 i = y.2 i := fun i hi hj hk => by show (if i = 3 then _ else if i = 20 + y.2 3 then 0 else if i = 30 + y.2 3 then 0 else y.2 i) = _; rw [if_neg hi, if_neg hj, if_neg hk]
  have e3 : (yz_gF y).2 3 = y.2 3 + 1 := rfl
  have e20 : (yz_gF y).2 (20 + y.2 3) = 0 := by show (if 20 + y.2 3 = 3 then _ else if 20 + y.2 3 = 20 + y.2 3 then 0 else _) = 0; rw [if_neg (by omega), if_pos rfl]
  have hno : ¬ (a = 18 ∨ a = 19 ∨ a = 28 ∨ a = 29) := fun z => by
    have h9 := h.2
    rcases z with rfl | rfl | rfl | rfl <;> exact absurd h9 (by decide)
  unfold yz_ex at he ⊢
  by_cases a6 : a < 6
  · rw [if_pos a6]
  rw [if_neg a6] at he ⊢
  by_cases a10 : a < 10
  · rw [if_pos a10, e 2 (by omega) (by omega) (by omega)] at he; rw [if_pos a10]; exact he
  rw [if_neg a10, e3] at he
  rw [if_neg a10]
  by_cases a18 : a < 18
  · rw [if_pos a18, decide_eq_true_eq] at he; rw [if_pos a18, decide_eq_true_eq]; omega
  rw [if_neg a18] at he ⊢
  by_cases a28 : a < 28
  · rw [if_pos a28, decide_eq_true_eq] at he; rw [if_pos a28, decide_eq_true_eq]; omega
  rw [if_neg a28] at he ⊢
  by_cases a38 : a < 38
  · rw [if_pos a38, decide_eq_true_eq] at he; rw [if_pos a38, decide_eq_true_eq]; omega
  rw [if_neg a38] at he ⊢
  by_cases a136 : a < 136
  · rw [if_pos a136, Bool.and_eq_true, decide_eq_true_eq, decide_eq_true_eq] at he
    rw [if_pos a136, Bool.and_eq_true, decide_eq_true_eq, decide_eq_true_eq]
    by_cases hf : (a - 40) / 12 = y.2 3
    · rw [hf, e20] at he; omega
    · rw [e (20 + (a - 40) / 12) (by omega) (by omega) (by omega)] at he
      exact ⟨by omega, he.2⟩
  rw [if_neg a136, e (a + 10) (by omega) (by omega) (by omega)] at he
  rw [if_neg a136]
  exact he
set_option maxHeartbeats 4000000 in
set_option maxRecDepth 100000 in
theorem zcX7_addFiber (l : Launch) (G : xw_G) {yd : Nat → Nat} {h : xw_M} {y : yz_Y} {q : yz_Y × Unit} (hR : mX7_addFiber y = some q) : zc_G l G yX7_addFiber cX7_addFiber 3 none 2 32 4 17 [.ref (yd 0)] (zPr G yd h y) (zPo G (zCh 3 38) yd h q.1 (fun _ => none)) := by
  unfold mX7_addFiber at hR
  by_cases hn : y.2 3 < 8
  rotate_left
  · rw [if_neg hn] at hR; cases hR
  rw [if_pos hn] at hR
  refine zc_of (by decide +kernel) rfl (Nat.le_of_ble_eq_true rfl) ?_
  intro p e s m args below meth c C hr hP
  have C : zj_C p s m args meth c G RX7 cX7_addFiber 3 := C
  have hz := C.2.2.2.2.2.2.2.2.2.2.1
  generalize hn9 : y.2 3 = n at hn
  have c2 : va_at (xg_D G) vwCl (yd 3, .inl (xg_T G 6, n, .inr (.inr (.inr (.inr (fun i => some (yd (10 + i)))))))) s.heap := by have h9 := hP.2.1 3 (yz_on0 (by decide)); rw [yz_ct4, hn9] at h9; exact h9
  refine zr_eqH (Pr2 := zL G s.heap []) (fun H e => by rw [e]; exact zL.nil) ?_
  show zj_X p l e { frames := 2, cells := 4, slots := 17, locals := 32 } s m args below meth c G 3 0 0 _ _ [some (.ref (yd 0)), none, none] 0 []
  refine zr_aload_n C dX7_addFiber_0 rfl ?_
  refine zr_getO C (fun H h => (zL.old h (hP.2.1 0 (yz_on0 (by decide))))) fl_RX7_20 rfl dX7_addFiber_1 ?_
  refine zr_alenX C (t := 6) (fun H h => zL.old h c2) rfl dX7_addFiber_4 ?_
  refine zr_iconst (v := 1) C dX7_addFiber_5 (by decide) ?_
  refine zr_iadd C dX7_addFiber_6 ?_
  rw [nI_1]
  refine zl_newF (n := n + 1) C (nI_pos (by omega)) (nI_clamp (by omega)) (by omega) (by show 0 + 1 ≤ 4; omega) (by show 0 + (n + 1) ≤ 17; omega) (lw_g_in (by decide +kernel) (by decide +kernel)) dX7_addFiber_7 (fun x hx0 => ?_)
  refine zr_astore_n C dX7_addFiber_10 rfl (by decide) ?_
  refine zr_iconst (v := 0) C dX7_addFiber_11 (by decide) ?_
  refine zr_istore_n C dX7_addFiber_12 rfl (by decide) ?_
  have key : ∀ (k i : Nat) (f : Nat → Option Nat), n - i = k → i ≤ n → (∀ j, j < i → f j = some (yd (10 + j))) → zj_X p l e { frames := 2, cells := 4, slots := 17, locals := 32 } s m args below meth c G 3 (0 + 1) (0 + (n + 1)) (MQ below (zc_Q G (zPo G (zCh 3 38) yd h q.1 (fun _ => none))) args s 4 17 (xg_B G)) (zL G s.heap [(x, .inl (xg_T G 6, n + 1, .inr (.inr (.inr (.inr f)))))]) [some (.ref (yd 0)), some (.ref x), some (.int (nI i))] 13 [] := by
    intro k
    induction k with
    | zero =>
      intro i f h1 h2 h3
      have hi : i = n := by omega
      subst hi
      refine zr_iload_n C dX7_addFiber_13 rfl ?_
      refine zr_aload_n C dX7_addFiber_14 rfl ?_
      refine zr_getO C (fun H h => (zL.old h (hP.2.1 0 (yz_on0 (by decide))))) fl_RX7_20 rfl dX7_addFiber_15 ?_
      refine zr_alenX C (t := 6) (fun H h => zL.old h c2) rfl dX7_addFiber_18 ?_
      refine zr_icmp_ge (tgt := 37) C dX7_addFiber_19 (by decide) (α := Unit) (A := some ()) (B := none) (r := some ()) (if_pos (nI_le (Nat.le_refl _) (by omega))) (fun _ => ?_) (fun z => by cases z)
      refine zr_aload_n C dX7_addFiber_37 rfl ?_
      refine zr_aload_n C dX7_addFiber_38 rfl ?_
      refine zr_getO C (fun H h => (zL.old h (hP.2.1 0 (yz_on0 (by decide))))) fl_RX7_20 rfl dX7_addFiber_39 ?_
      refine zr_alenX C (t := 6) (fun H h => zL.old h c2) rfl dX7_addFiber_42 ?_
      refine zl_newO (ci := 6) (fs := [.null, .null, .int 0, .int 0, .int 0, .int 0, .int 0, .int 0]) C nw_RX7_18 (by show 0 + 1 + 1 ≤ 4; omega) (by show 0 + (i + 1) + 8 ≤ 17; omega) dX7_addFiber_43 (fun t ht0 => ?_)
      have htx : x < t := ht0 _ List.mem_cons_self
      refine zr_dup C dX7_addFiber_46 rfl ?_
      refine zr_pure (φ := s.heap.size ≤ t) (fun H h => (h.2.2.1 0 _ rfl).2) (fun hzt => ?_)
      refine zr_goI (As := []) C ci_RX7_42 (zcX6_init l G (x := t) (by omega)) (fun H h => (h.2.2.1 0 _ rfl).1) rfl ⟨Nat.le_of_ble_eq_true rfl, Nat.le_of_ble_eq_true rfl⟩ (Nat.le_of_ble_eq_true rfl) ⟨by show 0 + 1 + 1 + 2 ≤ 4; omega, by show 0 + (i + 1) + 8 + 0 ≤ 17; omega⟩ dX7_addFiber_47 (fun rv => ?_)
      refine zr_pure (φ := rv = none) (fun H h => by obtain ⟨H0, -, h9, -⟩ := h; exact h9) (fun h9 => ?_)
      subst h9
      refine zr_ex (Pr2 := fun ab : Nat × Nat => zL G s.heap ((ab.2, .inl (xg_T G 0, 0, .inl (fun _ => 0))) :: (ab.1, .inl (xg_T G 5, 0, .inr (.inr (.inr (.inr (fun _ => none)))))) :: (t, .inr (6, [.ref ab.1, .ref ab.2, .int 0, .int 0, .int 5, .int 0, .int 0, .int 0])) :: [(x, .inl (xg_T G 6, i + 1, .inr (.inr (.inr (.inr f)))))])) (fun H h => by obtain ⟨H0, h6, -, h7⟩ := h; obtain ⟨a, b, h8⟩ := h6.X6 h7; exact ⟨(a, b), h8⟩) (fun ab => ?_)
      obtain ⟨a, b⟩ := ab
      refine zl_astF (i0 := 3) (fs := [.ref a, .ref b, .int 0, .int 0, .int 5, .int 0, .int 0, .int 0]) C hz rfl (fun H h => (h.2.2.1 2 _ rfl).1) (xo_ix_in (xs_ix (by show i < i + 1; omega) (by omega))) dX7_addFiber_50 ?_
      rw [nI_clamp (by omega)]
      refine zr_aload_n C dX7_addFiber_51 rfl ?_
      refine zr_aload_n C dX7_addFiber_52 rfl ?_
      refine zr_putO (Pr2 := yz_W G (zCh 3 38) yd (fun c => if c = 3 then x else if c = 10 + i then t else if c = 20 + i then a else if c = 30 + i then b else yd c) h (yz_gF y)) C (v := .ref x) (ty := .array (.object RX6)) (fun H h => ⟨zL.old h (hP.2.1 0 (yz_on0 (by decide))), yz_B hP (yz_on0 (by decide))⟩) fl_RX7_20 ⟨_, rfl, rfl, by decide +kernel⟩ rfl rfl (by show 4 < 7; omega) (fun H H1 hL9 e1 e2 e3 => ?_) dX7_addFiber_53 ?_
      · have l0 := hL9.2.2.1 0 _ rfl
        have l1 := hL9.2.2.1 1 _ rfl
        have l2 := hL9.2.2.1 2 _ rfl
        have l3 := hL9.2.2.1 3 _ rfl
        have ap := hL9.2.2.2
        have hne : ∀ q : Nat, s.heap.size ≤ q → q ≠ yd 0 := fun q hq z => by have := yz_lt hP (k := 0) (yz_on0 (by decide)); omega
        have ud : ∀ c, ¬ (c = 3 ∨ c = 10 + i ∨ c = 20 + i ∨ c = 30 + i) → (if c = 3 then x else if c = 10 + i then t else if c = 20 + i then a else if c = 30 + i then b else yd c) = yd c := fun c hc => by rw [if_neg (by omega), if_neg (by omega), if_neg (by omega), if_neg (by omega)]
        have ux : (if 3 = 3 then x else if 3 = 10 + i then t else if 3 = 20 + i then a else if 3 = 30 + i then b else yd 3) = x := if_pos rfl
        have ut : (if 10 + i = 3 then x else if 10 + i = 10 + i then t else if 10 + i = 20 + i then a else if 10 + i = 30 + i then b else yd (10 + i)) = t := by rw [if_neg (by omega), if_pos rfl]
        have ua : (if 20 + i = 3 then x else if 20 + i = 10 + i then t else if 20 + i = 20 + i then a else if 20 + i = 30 + i then b else yd (20 + i)) = a := by rw [if_neg (by omega), if_neg (by omega), if_pos rfl]
        have ub : (if 30 + i = 3 then x else if 30 + i = 10 + i then t else if 30 + i = 20 + i then a else if 30 + i = 30 + i then b else yd (30 + i)) = b := by rw [if_neg (by omega), if_neg (by omega), if_neg (by omega), if_pos rfl]
        refine yz_grow (S := fun c => c = 3 ∨ c = 10 + i ∨ c = 20 + i ∨ c = 30 + i) (o := 0) hz hP (yz_on0 (by decide)) (by omega) (fun c hc => ⟨ud c hc, ?_, ?_⟩) (fun c h9 hc => yz_gF_on (by omega) h9 (by rw [hn9]; exact hc)) (fun b9 hb9 => ?_) (fun c h9 hc => ?_) (fun c b9 hc hb9 _ _ h9 => ?_) ?_ (fun q hq hqo => (e2 q hqo).trans (hL9.2.1 q hq)) ?_ (fun c hc => ⟨by omega, by omega⟩)
        · show (if c = 10 + y.2 3 then (fun j => if j = 4 then 5 else 0) else if c = 30 + y.2 3 then (fun _ => 0) else y.1 c) = y.1 c
          rw [if_neg (by omega), if_neg (by omega)]
        · show (if c = 3 then y.2 3 + 1 else if c = 20 + y.2 3 then 0 else if c = 30 + y.2 3 then 0 else y.2 c) = y.2 c
          rw [if_neg (by omega), if_neg (by omega), if_neg (by omega)]
        · rcases hb9 with rfl | rfl | rfl | rfl
          · left; rfl
          · right; left; unfold yz_pa; rw [if_neg (by omega), if_neg (by omega), if_pos (by omega)]
          · right; right; left; unfold yz_pa; rw [if_neg (by omega), if_neg (by omega), if_neg (by omega), if_pos (by omega)]; omega
          · right; right; left; unfold yz_pa; rw [if_neg (by omega), if_neg (by omega), if_neg (by omega), if_neg (by omega), if_pos (by omega)]; omega
        · rcases hc with rfl | rfl | rfl | rfl
          · refine ⟨?_, l3.2⟩
            show H1[x]? = some (arrV (xg_T G 6) (y.2 3 + 1) (fun j => va_rf (some (if 10 + j = 3 then x else if 10 + j = 10 + i then t else if 10 + j = 20 + i then a else if 10 + j = 30 + i then b else yd (10 + j)))))
            have h8 : H[x]? = some (arrV (xg_T G 6) (i + 1) (fun j => va_rf (va_up f i (some t) j))) := l3.1
            rw [e2 x (hne x l3.2), h8, hn9]
            refine congrArg some (arrV_congr (fun j hj => ?_))
            rw [if_neg (by omega)]
            unfold va_up
            by_cases hj2 : j = i
            · rw [if_pos hj2, if_pos (by omega)]
            · rw [if_neg hj2, if_neg (by omega), if_neg (by omega), if_neg (by omega), h3 j (by omega)]
          · show va_at (xg_D G) vwCl ((if 10 + i = 3 then x else if 10 + i = 10 + i then t else if 10 + i = 20 + i then a else if 10 + i = 30 + i then b else yd (10 + i)), _) H1 ∧ s.heap.size ≤ (if 10 + i = 3 then x else if 10 + i = 10 + i then t else if 10 + i = 20 + i then a else if 10 + i = 30 + i then b else yd (10 + i))
            rw [ut]
            refine ⟨?_, l2.2⟩
            rw [yz_ct1 (yz_kdF (by omega)), show (yz_gF y).1 (10 + i) = (fun j => if j = 4 then 5 else 0) by show (if 10 + i = 10 + y.2 3 then _ else _) = _; rw [if_pos (by omega)]]
            rw [ua, ub]
            exact l2.1.kept (e2 t (hne t l2.2))
          · show va_at (xg_D G) vwCl ((if 20 + i = 3 then x else if 20 + i = 10 + i then t else if 20 + i = 20 + i then a else if 20 + i = 30 + i then b else yd (20 + i)), _) H1 ∧ s.heap.size ≤ (if 20 + i = 3 then x else if 20 + i = 10 + i then t else if 20 + i = 20 + i then a else if 20 + i = 30 + i then b else yd (20 + i))
            rw [ua]
            refine ⟨?_, l1.2⟩
            rw [yz_ct5 (yz_kdT (by omega)), show (yz_gF y).2 (20 + i) = 0 by show (if 20 + i = 3 then y.2 3 + 1 else if 20 + i = 20 + y.2 3 then 0 else _) = 0; rw [if_neg (by omega), if_pos (by omega)]]
            have h8 : H[a]? = some (arrV (xg_T G 5) 0 (fun j => va_rf none)) := l1.1
            have h7 : ∀ f9 : Nat → Value, H1[a]? = some (arrV (xg_T G 5) 0 f9) := fun f9 => by
              rw [e2 a (hne a l1.2), h8]
              exact congrArg some (arrV_congr (fun j hj => by omega))
            exact h7 (fun j => va_rf (some (if 40 + (12 * i + j) = 3 then x else if 40 + (12 * i + j) = 10 + i then t else if 40 + (12 * i + j) = 20 + i then a else if 40 + (12 * i + j) = 30 + i then b else yd (40 + (12 * i + j)))))
          · show va_at (xg_D G) vwCl ((if 30 + i = 3 then x else if 30 + i = 10 + i then t else if 30 + i = 20 + i then a else if 30 + i = 30 + i then b else yd (30 + i)), _) H1 ∧ s.heap.size ≤ (if 30 + i = 3 then x else if 30 + i = 10 + i then t else if 30 + i = 20 + i then a else if 30 + i = 30 + i then b else yd (30 + i))
            rw [ub]
            refine ⟨?_, l0.2⟩
            rw [yz_ct2 (yz_kdI (by omega)), show (yz_gF y).2 (30 + i) = 0 by show (if 30 + i = 3 then y.2 3 + 1 else if 30 + i = 20 + y.2 3 then 0 else if 30 + i = 30 + y.2 3 then 0 else _) = 0; rw [if_neg (by omega), if_neg (by omega), if_pos (by omega)], show (yz_gF y).1 (30 + i) = (fun _ => 0) by show (if 30 + i = 10 + y.2 3 then _ else if 30 + i = 30 + y.2 3 then (fun _ => 0) else _) = _; rw [if_neg (by omega), if_pos (by omega)]]
            exact l0.1.kept (e2 b (hne b l0.2))
        · have h8 : (if c = 3 then x else if c = 10 + i then t else if c = 20 + i then a else if c = 30 + i then b else yd c) = (if b9 = 3 then x else if b9 = 10 + i then t else if b9 = 20 + i then a else if b9 = 30 + i then b else yd b9) := h9
          have q01 : b ≠ a := fun z => absurd (ap 0 1 _ _ rfl rfl z) (by decide)
          have q02 : b ≠ t := fun z => absurd (ap 0 2 _ _ rfl rfl z) (by decide)
          have q03 : b ≠ x := fun z => absurd (ap 0 3 _ _ rfl rfl z) (by decide)
          have q12 : a ≠ t := fun z => absurd (ap 1 2 _ _ rfl rfl z) (by decide)
          have q13 : a ≠ x := fun z => absurd (ap 1 3 _ _ rfl rfl z) (by decide)
          have q23 : t ≠ x := fun z => absurd (ap 2 3 _ _ rfl rfl z) (by decide)
          rcases hc with rfl | rfl | rfl | rfl <;> rcases hb9 with rfl | rfl | rfl | rfl <;> first | rfl | (exfalso; simp only [ux, ut, ua, ub] at h8; omega)
        · have e10 : (yz_gF y).1 0 = y.1 0 := by show (if 0 = 10 + y.2 3 then _ else if 0 = 30 + y.2 3 then _ else y.1 0) = _; rw [if_neg (by omega), if_neg (by omega)]
          show va_at (xg_D G) vwCl (yd 0, .inr (7, [.int ((yz_gF y).1 0 0), .int ((yz_gF y).1 0 1), .ref (if 1 = 3 then x else if 1 = 10 + i then t else if 1 = 20 + i then a else if 1 = 30 + i then b else yd (1)), .ref (if 2 = 3 then x else if 2 = 10 + i then t else if 2 = 20 + i then a else if 2 = 30 + i then b else yd (2)), .ref (if 3 = 3 then x else if 3 = 10 + i then t else if 3 = 20 + i then a else if 3 = 30 + i then b else yd (3)), .ref (if 4 = 3 then x else if 4 = 10 + i then t else if 4 = 20 + i then a else if 4 = 30 + i then b else yd (4)), .ref (if 5 = 3 then x else if 5 = 10 + i then t else if 5 = 20 + i then a else if 5 = 30 + i then b else yd (5))])) H1
          rw [e10, ud 1 (by omega), ud 2 (by omega), ux, ud 4 (by omega), ud 5 (by omega)]
          exact e3
        · obtain ⟨b1, b2, b3⟩ := hP.2.2.1.2.2.2
          refine ⟨by show (if 2 = 3 then y.2 3 + 1 else if 2 = 20 + y.2 3 then 0 else if 2 = 30 + y.2 3 then 0 else y.2 2) ≤ 4; rw [if_neg (by omega), if_neg (by omega), if_neg (by omega)]; exact b1, by show y.2 3 + 1 ≤ 8; omega, fun f9 hf9 => ?_⟩
          show (if 20 + f9 = 3 then y.2 3 + 1 else if 20 + f9 = 20 + y.2 3 then 0 else if 20 + f9 = 30 + y.2 3 then 0 else y.2 (20 + f9)) ≤ 12
          rw [if_neg (by omega)]
          by_cases hf : 20 + f9 = 20 + y.2 3
          · rw [if_pos hf]; omega
          · rw [if_neg hf, if_neg (by omega)]; exact b3 f9 hf9
      · exact zq_v C hr (by omega) (by show 0 + (i + 1) + 8 + 0 ≤ 17; omega) dX7_addFiber_56 (q := q) hR
    | succ k ih =>
      intro i f h1 h2 h3
      refine zr_iload_n C dX7_addFiber_13 rfl ?_
      refine zr_aload_n C dX7_addFiber_14 rfl ?_
      refine zr_getO C (fun H h => (zL.old h (hP.2.1 0 (yz_on0 (by decide))))) fl_RX7_20 rfl dX7_addFiber_15 ?_
      refine zr_alenX C (t := 6) (fun H h => zL.old h c2) rfl dX7_addFiber_18 ?_
      refine zr_icmp_ge (tgt := 37) C dX7_addFiber_19 (by decide) (α := Unit) (A := none) (B := some ()) (r := some ()) (if_neg (nI_ge (by omega) (by omega))) (fun z => by cases z) (fun _ => ?_)
      refine zr_aload_n C dX7_addFiber_22 rfl ?_
      refine zr_iload_n C dX7_addFiber_23 rfl ?_
      refine zr_aload_n C dX7_addFiber_24 rfl ?_
      refine zr_getO C (fun H h => (zL.old h (hP.2.1 0 (yz_on0 (by decide))))) fl_RX7_20 rfl dX7_addFiber_25 ?_
      refine zr_iload_n C dX7_addFiber_28 rfl ?_
      refine zr_aaldO C (t := 6) (g := fun i => yd (10 + i)) (fun H h => zL.old h c2) rfl rfl (xo_ix_in (xs_ix (show i < n by omega) (by omega))) dX7_addFiber_29 ?_
      rw [nI_clamp (by omega)]
      have hk : yz_on y (10 + i) := ⟨by unfold yz_ex; rw [if_neg (by omega), if_neg (by omega), if_pos (by omega), decide_eq_true_eq]; omega, by have : yz_kd (10 + i) = 1 := yz_kdF (by omega); omega⟩
      refine zl_astF (i0 := 0) C hz rfl (fun H h => zL.old h (by have h9 := hP.2.1 _ hk; rw [yz_ct1 (yz_kdF (by omega))] at h9; exact h9)) (xo_ix_in (xs_ix (by show i < n + 1; omega) (by omega))) dX7_addFiber_30 ?_
      refine zr_iinc (v := 1) C dX7_addFiber_31 rfl (by decide) rfl (by decide) ?_
      refine zr_goto (tgt := 13) C dX7_addFiber_34 (by decide) ?_
      rw [nI_1, nI_clamp (by omega)]
      refine ih (i + 1) _ (by omega) (by omega) (fun j hj => ?_)
      unfold va_up
      by_cases hj2 : j = i
      · rw [if_pos hj2, hj2]
      · rw [if_neg hj2]
        exact h3 j (by omega)
  exact key n 0 _ (by omega) (by omega) (fun j hj => by omega)
