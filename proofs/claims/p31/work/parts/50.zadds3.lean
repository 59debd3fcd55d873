/-- a step more -/
def yz_gS (y : yz_Y) (f : Nat) (k o t : Int32) : yz_Y := (fun a => if a = 40 + (12 * f + y.2 (20 + f)) then (fun j => if j = 0 then k else if j = 1 then o else t) else y.1 a, fun a => if a = 20 + f then y.2 (20 + f) + 1 else if a = 40 + (12 * f + y.2 (20 + f)) then 3 else y.2 a)
def mX7_addStep2 (a1 : Int32) (y : yz_Y) : Option (yz_Y × Unit) := if yz_is y (10 + (Int32.toNatClampNeg a1)) 1 = true then (if (y.1 (10 + (Int32.toNatClampNeg a1)) 4) = (5 : Int32) then (mX7_ready a1 y).bind fun r => some (r.1, ()) else some (y, ())) else none
def mX7_addStep (a1 a2 a3 a4 : Int32) (y : yz_Y) : Option (yz_Y × Unit) := if (xo_ix a1 (y.2 3) && decide (y.2 (20 + (Int32.toNatClampNeg a1)) < 12) && decide (y.2 (30 + (Int32.toNatClampNeg a1)) ≤ 12)) = true then mX7_addStep2 a1 (yz_app (yz_gS y (Int32.toNatClampNeg a1) a2 a3 a4) (30 + (Int32.toNatClampNeg a1)) 0) else none
theorem yz_gS_on {y : yz_Y} {a f : Nat} {k o t : Int32} (hf : f < 8) (hn : y.2 (20 + f) < 12) (h : yz_on (yz_gS y f k o t) a) (h1 : ¬ (a = 20 + f ∨ a = 40 + (12 * f + y.2 (20 + f)))) : yz_on y a := by
  refine ⟨?_, h.2⟩
  have he := h.1
  have e : ∀ i, i ≠ 20 + f → i ≠ 40 + (12 * f + y.2 (20 + f)) → (yz_gS y f k o t).2 i = y.2 i := fun i hi hj => by show (if i = 20 + f then _ else if i = 40 + (12 * f + y.2 (20 + f)) then 3 else y.2 i) = _; rw [if_neg hi, if_neg hj]
  have e20 : (yz_gS y f k o t).2 (20 + f) = y.2 (20 + f) + 1 := if_pos rfl
  have hno : ¬ (a = 38 ∨ a = 39) := fun z => by
    have h9 := h.2
    rcases z with rfl | rfl <;> exact absurd h9 (by decide)
  unfold yz_ex at he ⊢
  by_cases a6 : a < 6
  · rw [if_pos a6]
  rw [if_neg a6] at he ⊢
  by_cases a10 : a < 10
  · rw [if_pos a10, e 2 (by omega) (by omega)] at he; rw [if_pos a10]; exact he
  rw [if_neg a10, e 3 (by omega) (by omega)] at he
  rw [if_neg a10]
  by_cases a18 : a < 18
  · rw [if_pos a18] at he; rw [if_pos a18]; exact he
  rw [if_neg a18] at he ⊢
  by_cases a28 : a < 28
  · rw [if_pos a28] at he; rw [if_pos a28]; exact he
  rw [if_neg a28] at he ⊢
  by_cases a38 : a < 38
  · rw [if_pos a38] at he; rw [if_pos a38]; exact he
  rw [if_neg a38] at he ⊢
  by_cases a136 : a < 136
  · rw [if_pos a136, Bool.and_eq_true, decide_eq_true_eq, decide_eq_true_eq] at he
    rw [if_pos a136, Bool.and_eq_true, decide_eq_true_eq, decide_eq_true_eq]
    by_cases hg : (a - 40) / 12 = f
    · rw [hg, e20] at he
      rw [hg]
      exact ⟨he.1, by omega⟩
    · rw [e (20 + (a - 40) / 12) (by omega) (by omega)] at he
      exact he
  rw [if_neg a136, e (a + 10) (by omega) (by omega)] at he
  rw [if_neg a136]
  exact he
set_option maxHeartbeats 4000000 in
set_option maxRecDepth 100000 in
theorem zcX7_addStep (l : Launch) (G : xw_G) {a1 a2 a3 a4 : Int32} {yd : Nat → Nat} {h : xw_M} {y : yz_Y} {q : yz_Y × Unit} (hR : mX7_addStep a1 a2 a3 a4 y = some q) : zc_G l G yX7_addStep cX7_addStep 9 none 2 44 4 41 [.ref (yd 0), .int a1, .int a2, .int a3, .int a4] (zPr G yd h y) (zPo G (zCh 4 139) yd h q.1 (fun _ => none)) := by
  unfold mX7_addStep at hR
  by_cases hg : (xo_ix a1 (y.2 3) && decide (y.2 (20 + (Int32.toNatClampNeg a1)) < 12) && decide (y.2 (30 + (Int32.toNatClampNeg a1)) ≤ 12)) = true
  rotate_left
  · rw [if_neg hg] at hR; cases hR
  rw [if_pos hg] at hR
  have hg2 := (Bool.and_eq_true _ _).mp hg
  have hg3 := (Bool.and_eq_true _ _).mp hg2.1
  have hb12 : y.2 (30 + (Int32.toNatClampNeg a1)) ≤ 12 := of_decide_eq_true hg2.2
  have hn : y.2 (20 + (Int32.toNatClampNeg a1)) < 12 := of_decide_eq_true hg3.2
  have hi1 := hg3.1
  have hfl := xo_ix_lt hi1
  refine zc_of (by decide +kernel) rfl (Nat.le_of_ble_eq_true rfl) ?_
  intro p e s m args below meth c C hr hP
  have C : zj_C p s m args meth c G RX7 cX7_addStep 9 := C
  have hz := C.2.2.2.2.2.2.2.2.2.2.1
  have hbd := hP.2.2.1.2.2.2
  generalize hf : Int32.toNatClampNeg a1 = f at hR hb12 hn hfl
  have hf8 : f < 8 := by have := hbd.2.1; omega
  generalize hn9 : y.2 (20 + f) = n at hn
  have on1 : yz_on y (10 + f) := ⟨by unfold yz_ex; rw [if_neg (by omega), if_neg (by omega), if_pos (by omega), decide_eq_true_eq]; omega, by have : yz_kd (10 + f) = 1 := yz_kdF (by omega); omega⟩
  have on5 : yz_on y (20 + f) := ⟨by unfold yz_ex; rw [if_neg (by omega), if_neg (by omega), if_neg (by omega), if_pos (by omega), decide_eq_true_eq]; omega, by have : yz_kd (20 + f) = 5 := yz_kdT (by omega); omega⟩
  have c3 : va_at (xg_D G) vwCl (yd 3, .inl (xg_T G 6, y.2 3, .inr (.inr (.inr (.inr (fun i => some (yd (10 + i)))))))) s.heap := by have h9 := hP.2.1 3 (yz_on0 (by decide)); rw [yz_ct4] at h9; exact h9
  have cF := hP.2.1 _ on1
  rw [yz_ct1 (yz_kdF (by omega))] at cF
  have c5 := hP.2.1 _ on5
  rw [yz_ct5 (yz_kdT (by omega)), hn9] at c5
  refine zr_eqH (Pr2 := zL G s.heap []) (fun H e => by rw [e]; exact zL.nil) ?_
  show zj_X p l e { frames := 2, cells := 4, slots := 41, locals := 44 } s m args below meth c G 9 0 0 _ _ [some (.ref (yd 0)), some (.int a1), some (.int a2), some (.int a3), some (.int a4), none, none, none, none] 0 []
  refine zr_aload_n C dX7_addStep_0 rfl ?_
  refine zr_getO C (fun H h => (zL.old h (hP.2.1 0 (yz_on0 (by decide))))) fl_RX7_20 rfl dX7_addStep_1 ?_
  refine zr_iload_n C dX7_addStep_4 rfl ?_
  refine zr_aaldO C (t := 6) (g := fun i => yd (10 + i)) (fun H h => zL.old h c3) rfl rfl (xo_ix_in hi1) dX7_addStep_5 ?_
  rw [hf]
  refine zr_astore C dX7_addStep_6 rfl (by decide) ?_
  refine zr_aload C dX7_addStep_8 rfl ?_
  refine zr_getO C (fun H h => zL.old h cF) fl_RX7_43 rfl dX7_addStep_10 ?_
  refine zr_alenX C (t := 5) (fun H h => zL.old h c5) rfl dX7_addStep_13 ?_
  refine zr_istore C dX7_addStep_14 rfl (by decide) ?_
  refine zr_iload C dX7_addStep_16 rfl ?_
  refine zr_iconst (v := 1) C dX7_addStep_18 (by decide) ?_
  refine zr_iadd C dX7_addStep_19 ?_
  rw [nI_1]
  refine zl_newA (n := n + 1) C (nI_pos (by omega)) (nI_clamp (by omega)) (by omega) (by show 0 + 1 ≤ 4; omega) (by show 0 + (n + 1) ≤ 41; omega) (lw_g_in (by decide +kernel) (by decide +kernel)) dX7_addStep_20 (fun x hx0 => ?_)
  refine zr_astore C dX7_addStep_23 rfl (by decide) ?_
  refine zr_iconst (v := 0) C dX7_addStep_25 (by decide) ?_
  refine zr_istore C dX7_addStep_26 rfl (by decide) ?_
  have key : ∀ (k i : Nat) (g : Nat → Option Nat), n - i = k → i ≤ n → (∀ j, j < i → g j = some (yd (40 + (12 * f + j)))) → zj_X p l e { frames := 2, cells := 4, slots := 41, locals := 44 } s m args below meth c G 9 (0 + 1) (0 + (n + 1)) (MQ below (zc_Q G (zPo G (zCh 4 139) yd h q.1 (fun _ => none))) args s 4 41 (xg_B G)) (zL G s.heap [(x, .inl (xg_T G 5, n + 1, .inr (.inr (.inr (.inr g)))))]) [some (.ref (yd 0)), some (.int a1), some (.int a2), some (.int a3), some (.int a4), some (.ref (yd (10 + f))), some (.int (nI n)), some (.ref x), some (.int (nI i))] 28 [] := by
    intro k
    induction k with
    | zero =>
      intro i g h1 h2 h3
      have hi : i = n := by omega
      subst hi
      refine zr_iload C dX7_addStep_28 rfl ?_
      refine zr_iload C dX7_addStep_30 rfl ?_
      refine zr_icmp_ge (tgt := 54) C dX7_addStep_32 (by decide) (α := Unit) (A := some ()) (B := none) (r := some ()) (if_pos (nI_le (Nat.le_refl _) (by omega))) (fun _ => ?_) (fun z => by cases z)
      refine zr_aload C dX7_addStep_54 rfl ?_
      refine zr_iload C dX7_addStep_56 rfl ?_
      refine zr_iconst (v := 3) C dX7_addStep_58 (by decide) ?_
      refine zl_newi (n := 3) C (by decide) (by decide) (by decide) (by show 0 + 1 + 1 ≤ 4; omega) (by show 0 + (i + 1) + 3 ≤ 41; omega) (lw_g_in (by decide +kernel) (by decide +kernel)) dX7_addStep_59 (fun b hb0 => ?_)
      have hbx : x < b := hb0 _ List.mem_cons_self
      refine zr_dup C dX7_addStep_61 rfl ?_
      refine zr_iconst (v := 0) C dX7_addStep_62 (by decide) ?_
      refine zr_iload_n C dX7_addStep_63 rfl ?_
      refine zl_iast (i0 := 0) C hz rfl (xo_ix_in (by decide)) dX7_addStep_64 ?_
      refine zr_dup C dX7_addStep_65 rfl ?_
      refine zr_iconst (v := 1) C dX7_addStep_66 (by decide) ?_
      refine zr_iload_n C dX7_addStep_67 rfl ?_
      refine zl_iast (i0 := 0) C hz rfl (xo_ix_in (by decide)) dX7_addStep_68 ?_
      refine zr_dup C dX7_addStep_69 rfl ?_
      refine zr_iconst (v := 2) C dX7_addStep_70 (by decide) ?_
      refine zr_iload C dX7_addStep_71 rfl ?_
      refine zl_iast (i0 := 0) C hz rfl (xo_ix_in (by decide)) dX7_addStep_73 ?_
      refine zl_astA (i0 := 1) (m9 := 3) (g := upd (upd (upd (fun _ => 0) (Int32.toNatClampNeg 0) a2) (Int32.toNatClampNeg 1) a3) (Int32.toNatClampNeg 2) a4) C hz rfl (fun H h => (h.2.2.1 0 _ rfl).1) (xo_ix_in (xs_ix (by show i < i + 1; omega) (by omega))) dX7_addStep_74 ?_
      rw [nI_clamp (by omega)]
      refine zr_aload C dX7_addStep_75 rfl ?_
      refine zr_aload C dX7_addStep_77 rfl ?_
      refine zr_putO (Pr2 := yz_W G (zCh 4 139) yd (fun c => if c = 20 + f then x else if c = 40 + (12 * f + i) then b else yd c) h (yz_gS y f a2 a3 a4)) C (v := .ref x) (ty := .array (.array .int)) (fun H h => ⟨zL.old h cF, yz_B hP on1⟩) fl_RX7_43 ⟨_, rfl, rfl, by decide +kernel⟩ rfl rfl (by show 0 < 8; omega) (fun H H1 hL9 e1 e2 e3 => ?_) dX7_addStep_79 ?_
      · have l0 := hL9.2.2.1 0 _ rfl
        have l1 := hL9.2.2.1 1 _ rfl
        have hne : ∀ q : Nat, s.heap.size ≤ q → q ≠ yd (10 + f) := fun q hq z => by have := yz_lt hP on1; omega
        have ud : ∀ c, ¬ (c = 20 + f ∨ c = 40 + (12 * f + i)) → (if c = 20 + f then x else if c = 40 + (12 * f + i) then b else yd c) = yd c := fun c hc => by rw [if_neg (by omega), if_neg (by omega)]
        refine yz_grow (S := fun c => c = 20 + f ∨ c = 40 + (12 * f + i)) (o := 10 + f) hz hP on1 (by omega) (fun c hc => ⟨ud c hc, ?_, ?_⟩) (fun c h9 hc => yz_gS_on hf8 (by omega) h9 (by rw [hn9]; exact hc)) (fun b9 hb9 => ?_) (fun c h9 hc => ?_) (fun c b9 hc hb9 _ _ h9 => ?_) ?_ (fun q hq hqo => (e2 q hqo).trans (hL9.2.1 q hq)) ?_ (fun c hc => ⟨by omega, by omega⟩)
        · show (if c = 40 + (12 * f + y.2 (20 + f)) then _ else y.1 c) = y.1 c
          rw [if_neg (by omega)]
        · show (if c = 20 + f then y.2 (20 + f) + 1 else if c = 40 + (12 * f + y.2 (20 + f)) then 3 else y.2 c) = y.2 c
          rw [if_neg (by omega), if_neg (by omega)]
        · rcases hb9 with rfl | rfl
          · left; unfold yz_pa; rw [if_neg (by omega), if_neg (by omega), if_neg (by omega), if_pos (by omega)]; omega
          · right; left; unfold yz_pa; rw [if_neg (by omega), if_neg (by omega), if_neg (by omega), if_neg (by omega), if_neg (by omega)]; omega
        · rcases hc with rfl | rfl
          · have ex : (if 20 + f = 20 + f then x else if 20 + f = 40 + (12 * f + i) then b else yd (20 + f)) = x := if_pos rfl
            show va_at (xg_D G) vwCl ((if 20 + f = 20 + f then x else if 20 + f = 40 + (12 * f + i) then b else yd (20 + f)), _) H1 ∧ s.heap.size ≤ (if 20 + f = 20 + f then x else if 20 + f = 40 + (12 * f + i) then b else yd (20 + f))
            rw [ex]
            refine ⟨?_, l1.2⟩
            rw [yz_ct5 (yz_kdT (by omega)), show (yz_gS y f a2 a3 a4).2 (20 + f) = i + 1 by show (if 20 + f = 20 + f then y.2 (20 + f) + 1 else _) = _; rw [if_pos rfl, hn9]]
            show H1[x]? = some (arrV (xg_T G 5) (i + 1) (fun j => va_rf (some (if 40 + (12 * f + j) = 20 + f then x else if 40 + (12 * f + j) = 40 + (12 * f + i) then b else yd (40 + (12 * f + j))))))
            have h8 : H[x]? = some (arrV (xg_T G 5) (i + 1) (fun j => va_rf (va_up g i (some b) j))) := l1.1
            rw [e2 x (hne x l1.2), h8]
            refine congrArg some (arrV_congr (fun j hj => ?_))
            rw [if_neg (by omega)]
            unfold va_up
            by_cases hj2 : j = i
            · rw [if_pos hj2, if_pos (by omega)]
            · rw [if_neg hj2, if_neg (by omega), h3 j (by omega)]
          · have eb : (if 40 + (12 * f + i) = 20 + f then x else if 40 + (12 * f + i) = 40 + (12 * f + i) then b else yd (40 + (12 * f + i))) = b := by rw [if_neg (by omega), if_pos rfl]
            show va_at (xg_D G) vwCl ((if 40 + (12 * f + i) = 20 + f then x else if 40 + (12 * f + i) = 40 + (12 * f + i) then b else yd (40 + (12 * f + i))), _) H1 ∧ s.heap.size ≤ (if 40 + (12 * f + i) = 20 + f then x else if 40 + (12 * f + i) = 40 + (12 * f + i) then b else yd (40 + (12 * f + i)))
            rw [eb]
            refine ⟨?_, l0.2⟩
            rw [yz_ct2 (yz_kdI (by omega)), show (yz_gS y f a2 a3 a4).2 (40 + (12 * f + i)) = 3 by show (if 40 + (12 * f + i) = 20 + f then _ else if 40 + (12 * f + i) = 40 + (12 * f + y.2 (20 + f)) then 3 else _) = 3; rw [if_neg (by omega), if_pos (by rw [hn9])], show (yz_gS y f a2 a3 a4).1 (40 + (12 * f + i)) = (fun j => if j = 0 then a2 else if j = 1 then a3 else a4) by show (if 40 + (12 * f + i) = 40 + (12 * f + y.2 (20 + f)) then _ else _) = _; rw [if_pos (by rw [hn9])]]
            refine zI.congr (va_at.kept l0.1 (e2 b (hne b l0.2))) (fun j hj => ?_)
            rcases (show j = 0 ∨ j = 1 ∨ j = 2 by omega) with rfl | rfl | rfl <;> rfl
        · have h8 : (if c = 20 + f then x else if c = 40 + (12 * f + i) then b else yd c) = (if b9 = 20 + f then x else if b9 = 40 + (12 * f + i) then b else yd b9) := h9
          rcases hc with rfl | rfl <;> rcases hb9 with rfl | rfl
          · rfl
          · rw [if_pos rfl, if_neg (by omega), if_pos rfl] at h8; omega
          · rw [if_neg (by omega), if_pos rfl, if_pos rfl] at h8; omega
          · rfl
        · have e10 : (yz_gS y f a2 a3 a4).1 (10 + f) = y.1 (10 + f) := if_neg (by omega)
          show va_at (xg_D G) vwCl (yd (10 + f), _) H1
          rw [yz_ct1 (yz_kdF (by omega)), e10]
          show va_at (xg_D G) vwCl (yd (10 + f), .inr (6, [.ref (if 20 + f = 20 + f then x else if 20 + f = 40 + (12 * f + i) then b else yd (20 + f)), .ref (if 30 + f = 20 + f then x else if 30 + f = 40 + (12 * f + i) then b else yd (30 + f)), .int (y.1 (10 + f) 2), .int (y.1 (10 + f) 3), .int (y.1 (10 + f) 4), .int (y.1 (10 + f) 5), .int (y.1 (10 + f) 6), .int (y.1 (10 + f) 7)])) H1
          rw [if_pos rfl, ud (30 + f) (by omega)]
          exact e3
        · obtain ⟨b1, b2, b3⟩ := hbd
          refine ⟨by show (if 2 = 20 + f then _ else if 2 = 40 + (12 * f + y.2 (20 + f)) then 3 else y.2 2) ≤ 4; rw [if_neg (by omega), if_neg (by omega)]; exact b1, by show (if 3 = 20 + f then _ else if 3 = 40 + (12 * f + y.2 (20 + f)) then 3 else y.2 3) ≤ 8; rw [if_neg (by omega), if_neg (by omega)]; exact b2, fun f9 hf9 => ?_⟩
          show (if 20 + f9 = 20 + f then y.2 (20 + f) + 1 else if 20 + f9 = 40 + (12 * f + y.2 (20 + f)) then 3 else y.2 (20 + f9)) ≤ 12
          by_cases hff : 20 + f9 = 20 + f
          · rw [if_pos hff]; omega
          · rw [if_neg hff, if_neg (by omega)]; exact b3 f9 hf9
      · have y0e : (fun c => if c = 20 + f then x else if c = 40 + (12 * f + i) then b else yd c) 0 = yd 0 := by show (if 0 = 20 + f then x else if 0 = 40 + (12 * f + i) then b else yd 0) = yd 0; rw [if_neg (by omega), if_neg (by omega)]
        have y1e : (fun c => if c = 20 + f then x else if c = 40 + (12 * f + i) then b else yd c) (10 + f) = yd (10 + f) := by show (if 10 + f = 20 + f then x else if 10 + f = 40 + (12 * f + i) then b else yd (10 + f)) = yd (10 + f); rw [if_neg (by omega), if_neg (by omega)]
        generalize (fun c => if c = 20 + f then x else if c = 40 + (12 * f + i) then b else yd c) = yd' at y0e y1e ⊢
        rw [← y0e, ← y1e]
        have onG : yz_is (yz_gS y f a2 a3 a4) (10 + f) 1 = true := by
          have e3 : (yz_gS y f a2 a3 a4).2 3 = y.2 3 := by show (if 3 = 20 + f then _ else if 3 = 40 + (12 * f + y.2 (20 + f)) then 3 else y.2 3) = _; rw [if_neg (by omega), if_neg (by omega)]
          unfold yz_is yz_ex
          rw [if_neg (by omega), if_neg (by omega), if_pos (by omega), e3, Bool.and_eq_true, decide_eq_true_eq, decide_eq_true_eq]
          exact ⟨by omega, yz_kdF (by omega)⟩
        have onB : (yz_is (yz_gS y f a2 a3 a4) (30 + f) 2 && decide ((yz_gS y f a2 a3 a4).2 (30 + f) ≤ 12)) = true := by
          have e3 : (yz_gS y f a2 a3 a4).2 3 = y.2 3 := by show (if 3 = 20 + f then _ else if 3 = 40 + (12 * f + y.2 (20 + f)) then 3 else y.2 3) = _; rw [if_neg (by omega), if_neg (by omega)]
          have e30 : (yz_gS y f a2 a3 a4).2 (30 + f) = y.2 (30 + f) := by show (if 30 + f = 20 + f then _ else if 30 + f = 40 + (12 * f + y.2 (20 + f)) then 3 else y.2 (30 + f)) = _; rw [if_neg (by omega), if_neg (by omega)]
          unfold yz_is yz_ex
          rw [if_neg (by omega), if_neg (by omega), if_neg (by omega), if_neg (by omega), if_pos (by omega), e3, e30, Bool.and_eq_true, Bool.and_eq_true, decide_eq_true_eq, decide_eq_true_eq, decide_eq_true_eq]
          exact ⟨⟨by omega, yz_kdI (by omega)⟩, hb12⟩
        refine zr_aload C dX7_addStep_82 rfl ?_
        refine zr_aload C dX7_addStep_84 rfl ?_
        refine zr_getF C fl_RX7_46 rfl dX7_addStep_86 (α := yz_Y × Unit) (A := some q) (q := q) (if_pos onG) (fun _ => ?_)
        refine zr_iconst (v := 0) C dX7_addStep_89 (by decide) ?_
        refine zr_with C cs_RX7_67 onB ⟨Nat.le_of_ble_eq_true rfl, Nat.le_of_ble_eq_true rfl⟩ (Nat.le_of_ble_eq_true rfl) ⟨by show 0 + 1 + 1 + 1 ≤ 4; omega, by show 0 + (i + 1) + 3 + 13 ≤ 41; omega⟩ dX7_addStep_90 (fun x9 => ?_)
        refine zr_mvF C ⟨by omega, by omega⟩ fl_RX7_46 zpr_6_1 dX7_addStep_93 onG ?_
        have z0e : yz_ud yd' (30 + f) x9 0 = yd' 0 := if_neg (by omega)
        have z1e : yz_ud yd' (30 + f) x9 (10 + f) = yd' (10 + f) := if_neg (by omega)
        generalize yz_ud yd' (30 + f) x9 = yd2 at z0e z1e ⊢
        rw [← z0e, ← z1e]
        have hR2 : mX7_addStep2 a1 (yz_mv (yz_gS y f a2 a3 a4) (30 + f) ((yz_gS y f a2 a3 a4).2 (30 + f) + 1) (upd ((yz_gS y f a2 a3 a4).1 (30 + f)) ((yz_gS y f a2 a3 a4).2 (30 + f)) 0)) = some q := hR
        generalize yz_mv (yz_gS y f a2 a3 a4) (30 + f) ((yz_gS y f a2 a3 a4).2 (30 + f) + 1) (upd ((yz_gS y f a2 a3 a4).1 (30 + f)) ((yz_gS y f a2 a3 a4).2 (30 + f)) 0) = y2 at hR2 ⊢
        unfold mX7_addStep2 at hR2
        rw [hf] at hR2
        refine zr_aload C dX7_addStep_96 rfl ?_
        refine zr_getF C fl_RX7_55 rfl dX7_addStep_98 hR2 (fun hR2 => ?_)
        refine zr_iconst (v := 5) C dX7_addStep_101 (by decide) ?_
        refine zr_icmp_ne (tgt := 110) C dX7_addStep_102 (by decide) hR2 (fun hR2 => ?_) (fun hR2 => ?_)
        · exact zq_v C hr (by omega) (by omega) dX7_addStep_110 hR2
        · refine zr_aload_n C dX7_addStep_105 rfl ?_
          refine zr_iload_n C dX7_addStep_106 rfl ?_
          refine zr_callVv C (st := []) [.int a1] cv_RX7_71 (fun k z => ⟨by have z1 := z.1; omega, by have z2 := z.2; omega⟩) (fun _ zz => zcX7_ready l G zz) rfl ⟨Nat.le_of_ble_eq_true rfl, Nat.le_of_ble_eq_true rfl⟩ (Nat.le_of_ble_eq_true rfl) ⟨by show 0 + 1 + 1 + 1 + 1 ≤ 4; omega, by show 0 + (i + 1) + 3 + 13 + 13 ≤ 41; omega⟩ rfl dX7_addStep_107 hR2 (fun r9 hr9 hR3 yd3 hy3 => ?_)
          exact zq_v C hr (by omega) (by omega) dX7_addStep_110 hR3
    | succ k ih =>
      intro i g h1 h2 h3
      refine zr_iload C dX7_addStep_28 rfl ?_
      refine zr_iload C dX7_addStep_30 rfl ?_
      refine zr_icmp_ge (tgt := 54) C dX7_addStep_32 (by decide) (α := Unit) (A := none) (B := some ()) (r := some ()) (if_neg (nI_ge (by omega) (by omega))) (fun z => by cases z) (fun _ => ?_)
      refine zr_aload C dX7_addStep_35 rfl ?_
      refine zr_iload C dX7_addStep_37 rfl ?_
      refine zr_aload C dX7_addStep_39 rfl ?_
      refine zr_getO C (fun H h => zL.old h cF) fl_RX7_43 rfl dX7_addStep_41 ?_
      refine zr_iload C dX7_addStep_44 rfl ?_
      refine zr_aaldO C (t := 5) (g := fun i => yd (40 + (12 * f + i))) (fun H h => zL.old h c5) rfl rfl (xo_ix_in (xs_ix (show i < n by omega) (by omega))) dX7_addStep_46 ?_
      rw [nI_clamp (by omega)]
      have hk : yz_on y (40 + (12 * f + i)) := ⟨by unfold yz_ex; rw [if_neg (by omega), if_neg (by omega), if_neg (by omega), if_neg (by omega), if_neg (by omega), if_pos (by omega), Bool.and_eq_true, decide_eq_true_eq, decide_eq_true_eq, show (40 + (12 * f + i) - 40) / 12 = f by omega, show (40 + (12 * f + i) - 40) % 12 = i by omega]; omega, by have : yz_kd (40 + (12 * f + i)) = 2 := yz_kdI (by omega); omega⟩
      refine zl_astA (i0 := 0) (m9 := y.2 (40 + (12 * f + i))) (g := y.1 (40 + (12 * f + i))) C hz rfl (fun H h => zL.old h (by have h9 := hP.2.1 _ hk; rw [yz_ct2 (yz_kdI (by omega))] at h9; exact h9)) (xo_ix_in (xs_ix (by show i < n + 1; omega) (by omega))) dX7_addStep_47 ?_
      refine zr_iinc (v := 1) C dX7_addStep_48 rfl (by decide) rfl (by decide) ?_
      refine zr_goto (tgt := 28) C dX7_addStep_51 (by decide) ?_
      rw [nI_1, nI_clamp (by omega)]
      refine ih (i + 1) _ (by omega) (by omega) (fun j hj => ?_)
      unfold va_up
      by_cases hj2 : j = i
      · rw [if_pos hj2, hj2]
      · rw [if_neg hj2]
        exact h3 j (by omega)
  exact key n 0 _ (by omega) (by omega) (fun j hj => by omega)
