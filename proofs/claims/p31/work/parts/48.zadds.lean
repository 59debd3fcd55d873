section ZG
variable {p : Program} {l : Launch} {e : Env} {R : Room} {s : State} {m : MethodId} {args : Array Value} {below : List Frame} {meth : Method} {c : Code} {G : xw_G} {nL cells slots : Nat} {Q : State → Prop}
variable {cc : ByteArray} {own : String} {pc : Nat} {lv : List (Option Value)} {st : List Value} {Pr : Heap → Prop}
/-- a world grows: the codes of S are new, or stand for something new; o, whose children they are, has been changed -/
theorem yz_grow {Ch : Nat → Prop} {yd : Nat → Nat} {h : xw_M} {y : yz_Y} {S : Nat → Prop} {o : Nat} {yd' : Nat → Nat} {y' : yz_Y} {s0 H1 : Heap} (hz : xg_z G ≤ s0.size) (hW : zPr G yd h y s0) (ho : yz_on y o) (hoS : ¬ S o) (hS : ∀ a, ¬ S a → yd' a = yd a ∧ y'.1 a = y.1 a ∧ y'.2 a = y.2 a) (hon : ∀ a, yz_on y' a → ¬ S a → yz_on y a) (hpa : ∀ b, S b → yz_pa b = o ∨ S (yz_pa b)) (hnew : ∀ a, yz_on y' a → S a → va_at (xg_D G) vwCl (yd' a, yz_ct (xg_T G) yd' y' a) H1 ∧ s0.size ≤ yd' a) (inj : ∀ a b, S a → S b → yz_on y' a → yz_on y' b → yd' a = yd' b → a = b) (par : va_at (xg_D G) vwCl (yd o, yz_ct (xg_T G) yd' y' o) H1) (oq : ∀ q : Nat, q < s0.size → q ≠ yd o → H1[q]? = s0[q]?) (bd : yz_bd y') (hCh : ∀ a, S a → Ch a) : yz_W G Ch yd yd' h y' H1 := by
  have hlt : ∀ a, yz_on y a → yd a < s0.size := fun a ha => yz_lt hW ha
  obtain ⟨w1, w2, w3, w4⟩ := id hW
  refine ⟨va_P.kept w1 (fun a q hq => ?_), fun a ha => ?_, ⟨fun i j hi hj hij => ?_, fun i hi => ?_, fun i j hi hj => ?_, bd⟩, fun a ha => (hS a (fun z => ha (hCh a z))).1⟩
  · obtain ⟨g1, rfl⟩ := xw_at hq
    exact oq _ (xw_adlt w1 g1) (fun z => w3.2.2.1 o a ho g1 z.symm)
  · by_cases hSa : S a
    · exact (hnew a ha hSa).1
    · have ha' := hon a ha hSa
      obtain ⟨e1, e2, e3⟩ := hS a hSa
      rw [e1]
      by_cases e4 : a = o
      · rw [e4]; exact par
      · refine yz_ct_cg (y := y) (yd := yd) e2 e3 (fun b hb => ?_) ((w2 a ha').kept (oq _ (hlt a ha') (fun z => e4 (w3.1 a o ha' ho z))))
        by_cases hSb : S b
        · have h9 := yz_pa_of w3.2.2.2 hb
          rcases hpa b hSb with h8 | h8
          · exact absurd (h9.symm.trans h8) e4
          · rw [h9] at h8; exact absurd h8 hSa
        · exact (hS b hSb).1
  · by_cases hSi : S i <;> by_cases hSj : S j
    · exact inj i j hSi hSj hi hj hij
    · have h1 := (hnew i hi hSi).2
      have h2 := hlt j (hon j hj hSj)
      rw [(hS j hSj).1] at hij
      omega
    · have h1 := (hnew j hj hSj).2
      have h2 := hlt i (hon i hi hSi)
      rw [(hS i hSi).1] at hij
      omega
    · rw [(hS i hSi).1, (hS j hSj).1] at hij
      exact w3.1 i j (hon i hi hSi) (hon j hj hSj) hij
  · by_cases hSi : S i
    · exact Nat.le_trans hz (hnew i hi hSi).2
    · rw [(hS i hSi).1]; exact w3.2.1 i (hon i hi hSi)
  · by_cases hSi : S i
    · have h1 := (hnew i hi hSi).2
      have h2 := xw_adlt w1 hj
      omega
    · rw [(hS i hSi).1]; exact w3.2.2.1 i j (hon i hi hSi) hj
theorem zr_alenX (C : zj_C p s m args meth c G own cc nL) {a t : Nat} {x : vp_A} {ty : FieldType} (ha : ∀ H, Pr H → va_at (xg_D G) vwCl (a, .inl (xg_T G t, x)) H) (hT : (xw_tys G)[t]? = some (xg_T G t, ty)) (d : decode cc pc = .ok (.arraylength, 1)) (K : zj_X p l e R s m args below meth c G nL cells slots Q Pr lv (pc + 1) (.int (nI x.1) :: st)) : zj_X p l e R s m args below meth c G nL cells slots Q Pr lv pc (.ref a :: st) := fun H locs ls hP hS hL => va_alen (D := xg_D G) (cl := vwCl) (ws := [(a, .inl (xg_T G t, x))]) C.1 C.2.1 C.2.2.2.2.2.1 (va_P1 (ha H hP)) 0 t rfl hT rfl d (K H locs ls hP hS hL)
theorem yz_ex_up {y y' : yz_Y} {a : Nat} (h : yz_ex y' a = true) (h2 : y'.2 2 = y.2 2) (h3 : y'.2 3 = y.2 3) (h20 : ∀ f, f < 8 → y'.2 (20 + f) = y.2 (20 + f)) (h150 : ∀ k, 146 ≤ k → y'.2 k = y.2 k) : yz_ex y a = true := by
  unfold yz_ex at h ⊢
  by_cases a6 : a < 6
  · rw [if_pos a6]
  rw [if_neg a6] at h ⊢
  by_cases a10 : a < 10
  · rw [if_pos a10, h2] at h; rw [if_pos a10]; exact h
  rw [if_neg a10, h3] at h
  rw [if_neg a10]
  by_cases a18 : a < 18
  · rw [if_pos a18] at h; rw [if_pos a18]; exact h
  rw [if_neg a18] at h ⊢
  by_cases a28 : a < 28
  · rw [if_pos a28] at h; rw [if_pos a28]; exact h
  rw [if_neg a28] at h ⊢
  by_cases a38 : a < 38
  · rw [if_pos a38] at h; rw [if_pos a38]; exact h
  rw [if_neg a38] at h ⊢
  by_cases a136 : a < 136
  · rw [if_pos a136, h20 ((a - 40) / 12) (by omega)] at h; rw [if_pos a136]; exact h
  rw [if_neg a136, h150 (a + 10) (by omega)] at h
  rw [if_neg a136]
  exact h
end ZG
/-- a channel more, as yet without its room -/
def yz_gC (y : yz_Y) : yz_Y := (fun a => if a = 6 + y.2 2 then (fun _ => 0) else y.1 a, fun a => if a = 2 then y.2 2 + 1 else if a = 6 + y.2 2 then 0 else y.2 a)
def mX7_addChannel (a1 : Int32) (y : yz_Y) : Option (yz_Y × Unit) := if y.2 2 < 4 ∧ y.2 1 ≤ 12 then some (yz_app (yz_gC y) 1 a1, ()) else none
theorem yz_gC_on {y : yz_Y} {a : Nat} (hn : y.2 2 < 4) (h : yz_on (yz_gC y) a) (h1 : a ≠ 6 + y.2 2) : yz_on y a := by
  refine ⟨?_, h.2⟩
  have he := h.1
  have e : ∀ i, i ≠ 2 → i ≠ 6 + y.2 2 → (yz_gC y).2 i = y.2 i := fun i hi hj => by show (if i = 2 then _ else if i = 6 + y.2 2 then 0 else y.2 i) = _; rw [if_neg hi, if_neg hj]
  have e2 : (yz_gC y).2 2 = y.2 2 + 1 := rfl
  by_cases ha : 6 ≤ a ∧ a < 10
  · unfold yz_ex at he ⊢
    rw [if_neg (by omega), if_pos (by omega), decide_eq_true_eq, e2] at he
    rw [if_neg (by omega), if_pos (by omega), decide_eq_true_eq]
    omega
  · unfold yz_ex at he ⊢
    by_cases a6 : a < 6
    · rw [if_pos a6]
    rw [if_neg a6, if_neg (by omega), e 3 (by omega) (by omega)] at he
    rw [if_neg a6, if_neg (by omega)]
    by_cases a18 : a < 18
    · rw [if_pos a18] at he; rw [if_pos a18]; exact he
    rw [if_neg a18] at he ⊢
    by_cases a28 : a < 28
    · rw [if_pos a28] at he; rw [if_pos a28]; exact he
    rw [if_neg a28] at he ⊢
    by_cases a38 : a < 38
    · rw [if_pos a38] at he; rw [if_pos a38]; exact he
    rw [if_neg a38] at he ⊢
    by_cases a136 : a < 136
    · rw [if_pos a136, e (20 + (a - 40) / 12) (by omega) (by omega)] at he; rw [if_pos a136]; exact he
    rw [if_neg a136, e (a + 10) (by omega) (by omega)] at he
    rw [if_neg a136]
    exact he
set_option maxHeartbeats 4000000 in
set_option maxRecDepth 100000 in
theorem zcX7_addChannel (l : Launch) (G : xw_G) {a1 : Int32} {yd : Nat → Nat} {h : xw_M} {y : yz_Y} {q : yz_Y × Unit} (hR : mX7_addChannel a1 y = some q) : zc_G l G yX7_addChannel cX7_addChannel 4 none 1 23 3 20 [.ref (yd 0), .int a1] (zPr G yd h y) (zPo G (zCh 1 9) yd h q.1 (fun _ => none)) := by
  unfold mX7_addChannel at hR
  by_cases hg : y.2 2 < 4 ∧ y.2 1 ≤ 12
  rotate_left
  · rw [if_neg hg] at hR; cases hR
  rw [if_pos hg] at hR
  obtain ⟨hn, h12⟩ := hg
  refine zc_of (by decide +kernel) rfl (Nat.le_of_ble_eq_true rfl) ?_
  intro p e s m args below meth c C hr hP
  have C : zj_C p s m args meth c G RX7 cX7_addChannel 4 := C
  have hz := C.2.2.2.2.2.2.2.2.2.2.1
  generalize hn9 : y.2 2 = n at hn
  have c2 : va_at (xg_D G) vwCl (yd 2, .inl (xg_T G 5, n, .inr (.inr (.inr (.inr (fun i => some (yd (6 + i)))))))) s.heap := by have h9 := hP.2.1 2 (yz_on0 (by decide)); rw [yz_ct3, hn9] at h9; exact h9
  refine zr_eqH (Pr2 := zL G s.heap []) (fun H e => by rw [e]; exact zL.nil) ?_
  show zj_X p l e { frames := 1, cells := 3, slots := 20, locals := 23 } s m args below meth c G 4 0 0 _ _ [some (.ref (yd 0)), some (.int a1), none, none] 0 []
  refine zr_aload_n C dX7_addChannel_0 rfl ?_
  refine zr_getO C (fun H h => (zL.old h (hP.2.1 0 (yz_on0 (by decide))))) fl_RX7_14 rfl dX7_addChannel_1 ?_
  refine zr_alenX C (t := 5) (fun H h => zL.old h c2) rfl dX7_addChannel_4 ?_
  refine zr_iconst (v := 1) C dX7_addChannel_5 (by decide) ?_
  refine zr_iadd C dX7_addChannel_6 ?_
  rw [nI_1]
  refine zl_newA (n := n + 1) C (nI_pos (by omega)) (nI_clamp (by omega)) (by omega) (by show 0 + 1 ≤ 3; omega) (by show 0 + (n + 1) ≤ 20; omega) (lw_g_in (by decide +kernel) (by decide +kernel)) dX7_addChannel_7 (fun x hx0 => ?_)
  refine zr_astore_n C dX7_addChannel_10 rfl (by decide) ?_
  refine zr_iconst (v := 0) C dX7_addChannel_11 (by decide) ?_
  refine zr_istore_n C dX7_addChannel_12 rfl (by decide) ?_
  have key : ∀ (k i : Nat) (f : Nat → Option Nat), n - i = k → i ≤ n → (∀ j, j < i → f j = some (yd (6 + j))) → zj_X p l e { frames := 1, cells := 3, slots := 20, locals := 23 } s m args below meth c G 4 (0 + 1) (0 + (n + 1)) (MQ below (zc_Q G (zPo G (zCh 1 9) yd h q.1 (fun _ => none))) args s 3 20 (xg_B G)) (zL G s.heap [(x, .inl (xg_T G 5, n + 1, .inr (.inr (.inr (.inr f)))))]) [some (.ref (yd 0)), some (.int a1), some (.ref x), some (.int (nI i))] 13 [] := by
    intro k
    induction k with
    | zero =>
      intro i f h1 h2 h3
      have hi : i = n := by omega
      subst hi
      refine zr_iload_n C dX7_addChannel_13 rfl ?_
      refine zr_aload_n C dX7_addChannel_14 rfl ?_
      refine zr_getO C (fun H h => (zL.old h (hP.2.1 0 (yz_on0 (by decide))))) fl_RX7_14 rfl dX7_addChannel_15 ?_
      refine zr_alenX C (t := 5) (fun H h => zL.old h c2) rfl dX7_addChannel_18 ?_
      refine zr_icmp_ge (tgt := 37) C dX7_addChannel_19 (by decide) (α := Unit) (A := some ()) (B := none) (r := some ()) (if_pos (nI_le (Nat.le_refl _) (by omega))) (fun _ => ?_) (fun z => by cases z)
      refine zr_aload_n C dX7_addChannel_37 rfl ?_
      refine zr_aload_n C dX7_addChannel_38 rfl ?_
      refine zr_getO C (fun H h => (zL.old h (hP.2.1 0 (yz_on0 (by decide))))) fl_RX7_14 rfl dX7_addChannel_39 ?_
      refine zr_alenX C (t := 5) (fun H h => zL.old h c2) rfl dX7_addChannel_42 ?_
      refine zr_iconst (v := 0) C dX7_addChannel_43 (by decide) ?_
      refine zl_newi (n := 0) C (by decide) (by decide) (by decide) (by show 0 + 1 + 1 ≤ 3; omega) (by show 0 + (i + 1) + 0 ≤ 20; omega) (lw_g_in (by decide +kernel) (by decide +kernel)) dX7_addChannel_44 (fun b hb0 => ?_)
      have hbx : x < b := hb0 _ List.mem_cons_self
      refine zl_astA (i0 := 1) (m9 := 0) (g := fun _ => 0) C hz rfl (fun H h => (h.2.2.1 0 _ rfl).1) (xo_ix_in (xs_ix (by show i < i + 1; omega) (by omega))) dX7_addChannel_46 ?_
      rw [nI_clamp (by omega)]
      refine zr_aload_n C dX7_addChannel_47 rfl ?_
      refine zr_aload_n C dX7_addChannel_48 rfl ?_
      refine zr_putO (Pr2 := yz_W G (zCh 1 9) yd (fun a => if a = 2 then x else if a = 6 + i then b else yd a) h (yz_gC y)) C (v := .ref x) (ty := .array (.array .int)) (fun H h => ⟨zL.old h (hP.2.1 0 (yz_on0 (by decide))), yz_B hP (yz_on0 (by decide))⟩) fl_RX7_14 ⟨_, rfl, rfl, by decide +kernel⟩ rfl rfl (by show 3 < 7; omega) (fun H H1 hL9 e1 e2 e3 => ?_) dX7_addChannel_49 ?_
      · have l0 := hL9.2.2.1 0 _ rfl
        have l1 := hL9.2.2.1 1 _ rfl
        have hne : ∀ q : Nat, s.heap.size ≤ q → q ≠ yd 0 := fun q hq z => by have := yz_lt hP (k := 0) (yz_on0 (by decide)); omega
        refine yz_grow (S := fun a => a = 2 ∨ a = 6 + i) (o := 0) hz hP (yz_on0 (by decide)) (by omega) (fun a ha => ⟨?_, ?_, ?_⟩) (fun a h9 ha => yz_gC_on (by omega) h9 (fun z => ha (Or.inr (by rw [z, hn9])))) (fun b9 hb9 => ?_) (fun a h9 ha => ?_) (fun a b9 ha hb9 _ _ h9 => ?_) ?_ (fun q hq hqo => (e2 q hqo).trans (hL9.2.1 q hq)) ?_ (fun a ha => ⟨by omega, by omega⟩)
        · show (if a = 2 then x else if a = 6 + i then b else yd a) = yd a
          rw [if_neg (by omega), if_neg (by omega)]
        · show (if a = 6 + y.2 2 then (fun _ => 0) else y.1 a) = y.1 a
          rw [if_neg (by omega)]
        · show (if a = 2 then y.2 2 + 1 else if a = 6 + y.2 2 then 0 else y.2 a) = y.2 a
          rw [if_neg (by omega), if_neg (by omega)]
        · rcases hb9 with rfl | rfl
          · left; rfl
          · right; left; unfold yz_pa; rw [if_neg (by omega), if_pos (by omega)]
        · rcases ha with rfl | rfl
          · refine ⟨?_, l1.2⟩
            show H1[x]? = some (arrV (xg_T G 5) (y.2 2 + 1) (fun j => va_rf (some (if 6 + j = 2 then x else if 6 + j = 6 + i then b else yd (6 + j)))))
            have h8 : H[x]? = some (arrV (xg_T G 5) (i + 1) (fun j => va_rf (va_up f i (some b) j))) := l1.1
            rw [e2 x (hne x l1.2), h8, hn9]
            refine congrArg some (arrV_congr (fun j hj => ?_))
            rw [if_neg (by omega)]
            unfold va_up
            by_cases hj2 : j = i
            · rw [if_pos hj2, if_pos (by omega)]
            · rw [if_neg hj2, if_neg (by omega), h3 j (by omega)]
          · have ey : (if 6 + i = 2 then x else if 6 + i = 6 + i then b else yd (6 + i)) = b := by rw [if_neg (by omega), if_pos rfl]
            show va_at (xg_D G) vwCl ((if 6 + i = 2 then x else if 6 + i = 6 + i then b else yd (6 + i)), _) H1 ∧ s.heap.size ≤ (if 6 + i = 2 then x else if 6 + i = 6 + i then b else yd (6 + i))
            rw [ey]
            refine ⟨?_, l0.2⟩
            rw [yz_ct2 (yz_kdI (by omega)), show (yz_gC y).2 (6 + i) = 0 by show (if 6 + i = 2 then y.2 2 + 1 else if 6 + i = 6 + y.2 2 then 0 else y.2 (6 + i)) = 0; rw [if_neg (by omega), if_pos (by omega)], show (yz_gC y).1 (6 + i) = (fun _ => 0) by show (if 6 + i = 6 + y.2 2 then (fun _ => 0) else y.1 (6 + i)) = _; rw [if_pos (by omega)]]
            exact l0.1.kept (e2 b (hne b l0.2))
        · have h8 : (if a = 2 then x else if a = 6 + i then b else yd a) = (if b9 = 2 then x else if b9 = 6 + i then b else yd b9) := h9
          rcases ha with rfl | rfl <;> rcases hb9 with rfl | rfl
          · rfl
          · rw [if_pos rfl, if_neg (by omega), if_pos rfl] at h8; omega
          · rw [if_neg (by omega), if_pos rfl, if_pos rfl] at h8; omega
          · rfl
        · show va_at (xg_D G) vwCl (yd 0, .inr (7, [.int ((if 0 = 6 + y.2 2 then (fun _ => 0) else y.1 0) 0), .int ((if 0 = 6 + y.2 2 then (fun _ => 0) else y.1 0) 1), .ref (if 1 = 2 then x else if 1 = 6 + i then b else yd 1), .ref (if 2 = 2 then x else if 2 = 6 + i then b else yd 2), .ref (if 3 = 2 then x else if 3 = 6 + i then b else yd 3), .ref (if 4 = 2 then x else if 4 = 6 + i then b else yd 4), .ref (if 5 = 2 then x else if 5 = 6 + i then b else yd 5)])) H1
          rw [if_neg (show ¬ 0 = 6 + y.2 2 by omega), if_neg (show ¬ 1 = 2 by omega), if_neg (show ¬ 1 = 6 + i by omega), if_pos rfl, if_neg (show ¬ 3 = 2 by omega), if_neg (show ¬ 3 = 6 + i by omega), if_neg (show ¬ 4 = 2 by omega), if_neg (show ¬ 4 = 6 + i by omega), if_neg (show ¬ 5 = 2 by omega), if_neg (show ¬ 5 = 6 + i by omega)]
          exact e3
        · obtain ⟨b1, b2, b3⟩ := hP.2.2.1.2.2.2
          refine ⟨by show y.2 2 + 1 ≤ 4; omega, by show (if 3 = 2 then y.2 2 + 1 else if 3 = 6 + y.2 2 then 0 else y.2 3) ≤ 8; rw [if_neg (by omega), if_neg (by omega)]; exact b2, fun f9 hf9 => by show (if 20 + f9 = 2 then y.2 2 + 1 else if 20 + f9 = 6 + y.2 2 then 0 else y.2 (20 + f9)) ≤ 12; rw [if_neg (by omega), if_neg (by omega)]; exact b3 f9 hf9⟩
      · have y0e : (fun a => if a = 2 then x else if a = 6 + i then b else yd a) 0 = yd 0 := by show (if 0 = 2 then x else if 0 = 6 + i then b else yd 0) = yd 0; rw [if_neg (by omega), if_neg (by omega)]
        generalize (fun a => if a = 2 then x else if a = 6 + i then b else yd a) = yd' at y0e ⊢
        rw [← y0e]
        refine zr_aload_n C dX7_addChannel_52 rfl ?_
        refine zr_aload_n C dX7_addChannel_53 rfl ?_
        refine zr_getS C fl_RX7_7 rfl dX7_addChannel_54 ?_
        refine zr_iload_n C dX7_addChannel_57 rfl ?_
        have e1 : (yz_gC y).2 1 = y.2 1 := by show (if 1 = 2 then y.2 2 + 1 else if 1 = 6 + y.2 2 then 0 else y.2 1) = _; rw [if_neg (by omega), if_neg (by omega)]
        refine zr_withS C (by decide) ⟨by omega, by omega⟩ cs_RX7_67 fl_RX7_7 zpr_7_2 ⟨Nat.le_of_ble_eq_true rfl, Nat.le_of_ble_eq_true rfl⟩ (Nat.le_of_ble_eq_true rfl) ⟨by show 0 + 1 + 1 + 1 ≤ 3; omega, by show 0 + (i + 1) + 0 + 13 ≤ 20; omega⟩ dX7_addChannel_58 dX7_addChannel_61 (f := fun y1 => some (y1, ())) (q := q) (by rw [if_pos (by rw [e1, decide_eq_true h12]; rfl)]; exact hR) (fun y1 hR yd2 hy2 => ?_)
        exact zq_v C hr (by omega) (by omega) dX7_addChannel_64 hR
    | succ k ih =>
      intro i f h1 h2 h3
      refine zr_iload_n C dX7_addChannel_13 rfl ?_
      refine zr_aload_n C dX7_addChannel_14 rfl ?_
      refine zr_getO C (fun H h => (zL.old h (hP.2.1 0 (yz_on0 (by decide))))) fl_RX7_14 rfl dX7_addChannel_15 ?_
      refine zr_alenX C (t := 5) (fun H h => zL.old h c2) rfl dX7_addChannel_18 ?_
      refine zr_icmp_ge (tgt := 37) C dX7_addChannel_19 (by decide) (α := Unit) (A := none) (B := some ()) (r := some ()) (if_neg (nI_ge (by omega) (by omega))) (fun z => by cases z) (fun _ => ?_)
      refine zr_aload_n C dX7_addChannel_22 rfl ?_
      refine zr_iload_n C dX7_addChannel_23 rfl ?_
      refine zr_aload_n C dX7_addChannel_24 rfl ?_
      refine zr_getO C (fun H h => (zL.old h (hP.2.1 0 (yz_on0 (by decide))))) fl_RX7_14 rfl dX7_addChannel_25 ?_
      refine zr_iload_n C dX7_addChannel_28 rfl ?_
      refine zr_aaldO C (t := 5) (g := fun i => yd (6 + i)) (fun H h => zL.old h c2) rfl rfl (xo_ix_in (xs_ix (show i < n by omega) (by omega))) dX7_addChannel_29 ?_
      rw [nI_clamp (by omega)]
      have hk : yz_on y (6 + i) := ⟨by unfold yz_ex; rw [if_neg (by omega), if_pos (by omega), decide_eq_true_eq]; omega, by have : yz_kd (6 + i) = 2 := yz_kdI (by omega); omega⟩
      refine zl_astA (i0 := 0) (m9 := y.2 (6 + i)) (g := y.1 (6 + i)) C hz rfl (fun H h => zL.old h (by have h9 := hP.2.1 _ hk; rw [yz_ct2 (yz_kdI (by omega))] at h9; exact h9)) (xo_ix_in (xs_ix (by show i < n + 1; omega) (by omega))) dX7_addChannel_30 ?_
      refine zr_iinc (v := 1) C dX7_addChannel_31 rfl (by decide) rfl (by decide) ?_
      refine zr_goto (tgt := 13) C dX7_addChannel_34 (by decide) ?_
      rw [nI_1, nI_clamp (by omega)]
      refine ih (i + 1) _ (by omega) (by omega) (fun j hj => ?_)
      unfold va_up
      by_cases hj2 : j = i
      · rw [if_pos hj2, hj2]
      · rw [if_neg hj2]
        exact h3 j (by omega)
  exact key n 0 _ (by omega) (by omega) (fun j hj => by omega)
