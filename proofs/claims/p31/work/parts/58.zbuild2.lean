/-- the law's first memory -/
def yz_0 : yz_Y := (fun _ _ => 0, fun _ => 0)
def yz_d6 (t p d f l w : Nat) : Nat → Nat := fun k => if k = 0 then t else if k = 1 then p else if k = 2 then d else if k = 3 then f else if k = 4 then l else w
theorem yz_0_on {a : Nat} (h : yz_on yz_0 a) : a < 6 := by
  have he := h.1
  unfold yz_ex at he
  by_cases a6 : a < 6
  · exact a6
  rw [if_neg a6] at he
  have e : ∀ i, yz_0.2 i = 0 := fun _ => rfl
  simp only [e] at he
  (repeat' split at he) <;> simp at he
theorem yz_0_W {G : xw_G} {h : xw_M} {s0 H H' : Heap} {t : Nat} (hz : xg_z G ≤ s0.size) (hP : xw_P G h s0) (hL : zL G s0 [(t, .inr (7, [.int 0, .int 0, .null, .null, .null, .null, .null]))] H) (hX : zX7 G t H H') : ∃ yd : Nat → Nat, yd 0 = t ∧ yz_W G (fun _ => True) (fun _ => 0) yd h yz_0 H' := by
  obtain ⟨p, d, f, l, w, x1, x2, x3, x4, x5, x6⟩ := hX
  obtain ⟨l1, l2, l3, l4⟩ := hL
  have ht := (l3 0 _ rfl).2
  have htl : t < H.size := (l3 0 _ rfl).1.lt
  have hw := x5 0 _ rfl
  have hl := x5 1 _ rfl
  have hf := x5 2 _ rfl
  have hd := x5 3 _ rfl
  have hp := x5 4 _ rfl
  have ap : ∀ i j : Nat, i < 5 → j < 5 → i ≠ j → [w, l, f, d, p].getD i 0 ≠ [w, l, f, d, p].getD j 0 := by
    intro i j hi hj hij z
    have key : ∀ i, i < 5 → ∃ e : va_E, [(w, (.inl (xg_T G 0, 0, .inl (fun _ => 0)) : va_E)), (l, .inl (xg_T G 0, 0, .inl (fun _ => 0))), (f, .inl (xg_T G 6, 0, .inr (.inr (.inr (.inr (fun _ => none)))))), (d, .inl (xg_T G 5, 0, .inr (.inr (.inr (.inr (fun _ => none)))))), (p, .inl (xg_T G 0, 0, .inl (fun _ => 0)))][i]? = some ([w, l, f, d, p].getD i 0, e) := fun i hi => by
      rcases (show i = 0 ∨ i = 1 ∨ i = 2 ∨ i = 3 ∨ i = 4 by omega) with rfl | rfl | rfl | rfl | rfl <;> exact ⟨_, rfl⟩
    obtain ⟨e1, k1⟩ := key i hi
    obtain ⟨e2, k2⟩ := key j hj
    exact hij (x6 i j _ _ k1 k2 z)
  have hw2 : H.size ≤ w := hw.2
  have hl2 : H.size ≤ l := hl.2
  have hf2 : H.size ≤ f := hf.2
  have hd2 : H.size ≤ d := hd.2
  have hp2 : H.size ≤ p := hp.2
  have a01 : w ≠ l := ap 0 1 (by omega) (by omega) (by omega)
  have a02 : w ≠ f := ap 0 2 (by omega) (by omega) (by omega)
  have a03 : w ≠ d := ap 0 3 (by omega) (by omega) (by omega)
  have a04 : w ≠ p := ap 0 4 (by omega) (by omega) (by omega)
  have a12 : l ≠ f := ap 1 2 (by omega) (by omega) (by omega)
  have a13 : l ≠ d := ap 1 3 (by omega) (by omega) (by omega)
  have a14 : l ≠ p := ap 1 4 (by omega) (by omega) (by omega)
  have a23 : f ≠ d := ap 2 3 (by omega) (by omega) (by omega)
  have a24 : f ≠ p := ap 2 4 (by omega) (by omega) (by omega)
  have a34 : d ≠ p := ap 3 4 (by omega) (by omega) (by omega)
  have c0 : yz_d6 t p d f l w 0 = t := rfl
  have c1 : yz_d6 t p d f l w 1 = p := rfl
  have c2 : yz_d6 t p d f l w 2 = d := rfl
  have c3 : yz_d6 t p d f l w 3 = f := rfl
  have c4 : yz_d6 t p d f l w 4 = l := rfl
  have c5 : yz_d6 t p d f l w 5 = w := rfl
  have six : ∀ a, yz_on yz_0 a → a = 0 ∨ a = 1 ∨ a = 2 ∨ a = 3 ∨ a = 4 ∨ a = 5 := fun a ha => by have := yz_0_on ha; omega
  refine ⟨yz_d6 t p d f l w, rfl, va_P.kept hP (fun a q hq => ?_), fun a ha => ?_, ⟨fun i j hi hj hij => ?_, fun i hi => ?_, fun i j hi hj => ?_, ⟨by decide, by decide, fun f9 _ => Nat.zero_le _⟩⟩, fun a ha => absurd trivial ha⟩
  · obtain ⟨g1, rfl⟩ := xw_at hq
    have h9 := xw_adlt hP g1
    exact (x2 _ (by show xg_ad G a < H.size; omega) (by show xg_ad G a ≠ t; omega)).trans (l2 _ h9)
  · rcases six a ha with rfl | rfl | rfl | rfl | rfl | rfl
    · exact x4
    · exact hp.1
    · have h8 : H'[d]? = some (arrV (xg_T G 5) 0 (fun j => va_rf none)) := hd.1
      show H'[d]? = some (arrV (xg_T G 5) 0 (fun j => va_rf (some (yz_d6 t p d f l w (6 + j)))))
      rw [h8]
      exact congrArg some (arrV_congr (fun j hj => by omega))
    · have h8 : H'[f]? = some (arrV (xg_T G 6) 0 (fun j => va_rf none)) := hf.1
      show H'[f]? = some (arrV (xg_T G 6) 0 (fun j => va_rf (some (yz_d6 t p d f l w (10 + j)))))
      rw [h8]
      exact congrArg some (arrV_congr (fun j hj => by omega))
    · exact hl.1
    · exact hw.1
  · rcases six i hi with rfl | rfl | rfl | rfl | rfl | rfl <;> rcases six j hj with rfl | rfl | rfl | rfl | rfl | rfl <;> first | rfl | (exfalso; simp only [c0, c1, c2, c3, c4, c5] at hij; omega)
  · rcases six i hi with rfl | rfl | rfl | rfl | rfl | rfl <;> simp only [c0, c1, c2, c3, c4, c5] <;> omega
  · have h9 := xw_adlt hP hj
    rcases six i hi with rfl | rfl | rfl | rfl | rfl | rfl <;> simp only [c0, c1, c2, c3, c4, c5] <;> omega
set_option maxHeartbeats 4000000 in
set_option maxRecDepth 100000 in
theorem zcL_build (l : Launch) (G : xw_G) (hl : l.stackTraces = false) {h : xw_M} {q : xw_M × yz_Y × Unit} (hR : mL_build (xg_L G) (xg_xs G)  h yz_0 = some q) : zc_G l G yL_build cL_build 6 (some (.object "WaterFibersLaw$Sim")) 9 193 101022 1313215 [.ref (xg_ad G 350), .ref (xg_b G)] (xw_P G h) (zPo G (fun _ => True) (fun _ => 0) q.1 q.2.1 (fun yd => some (.ref (yd 0)))) := by
  refine zc_of (by decide +kernel) rfl (Nat.le_of_ble_eq_true rfl) ?_
  intro p e s m args below meth c C hr hP
  have C : zj_C p s m args meth c G RL cL_build 6 := C
  have hz := C.2.2.2.2.2.2.2.2.2.2.1
  refine zr_eqH (Pr2 := zL G s.heap []) (fun H e => by rw [e]; exact zL.nil) ?_
  show zj_X p l e { frames := 9, cells := 101022, slots := 1313215, locals := 193 } s m args below meth c G 6 0 0 _ _ [some (.ref (xg_ad G 350)), some (.ref (xg_b G)), none, none, none, none] 0 []
  refine zl_newO (ci := 7) (fs := [.int 0, .int 0, .null, .null, .null, .null, .null]) C nw_RL_10 (by show 0 + 1 ≤ 101022; omega) (by show 0 + 7 ≤ 1313215; omega) dL_build_0 (fun t ht0 => ?_)
  refine zr_dup C dL_build_3 rfl ?_
  refine zr_pure (φ := s.heap.size ≤ t) (fun H h => (h.2.2.1 0 _ rfl).2) (fun hzt => ?_)
  refine zr_goI (As := []) C ci_RL_77 (zcX7_init l G (x := t) (by omega)) (fun H h => (h.2.2.1 0 _ rfl).1) rfl ⟨Nat.le_of_ble_eq_true rfl, Nat.le_of_ble_eq_true rfl⟩ (Nat.le_of_ble_eq_true rfl) ⟨by show 0 + 1 + 5 ≤ 101022; omega, by show 0 + 7 + 0 ≤ 1313215; omega⟩ dL_build_4 (fun rv => ?_)
  refine zr_pure (φ := rv = none) (fun H h => by obtain ⟨H0, -, h9, -⟩ := h; exact h9) (fun h9 => ?_)
  subst h9
  refine zr_ex (Pr2 := fun yd H' => yd 0 = t ∧ yz_W G (fun _ => True) (fun _ => 0) yd h yz_0 H') (fun H hh => by obtain ⟨H0, h6, -, h7⟩ := hh; exact yz_0_W hz hP h6 h7) (fun yd => ?_)
  refine zr_pure (φ := yd 0 = t) (fun H h => h.1) (fun e0 => ?_)
  refine zr_eqH (Pr2 := yz_W G (fun _ => True) (fun _ => 0) yd h yz_0) (fun H h => h.2) ?_
  rw [← e0]
  refine zr_astore_n C dL_build_7 rfl (by decide) ?_
  refine mzL_build C hr hl (fun {cells slots} yd9 h9 y9 c9 s9 hR9 => ?_) yd (by show 0 + 1 + 5 + (101016) ≤ 101022; omega) (by show 0 + 7 + 0 + (1313208) ≤ 1313215; omega) hR
  refine zr_aload_n C dL_build_123 rfl ?_
  exact zq_r C hr (by omega) (by omega) dL_build_124 hR9
