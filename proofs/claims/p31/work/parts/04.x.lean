/-! the memory: (code, slot) to int; every thing of the class is a code below 351 -/
abbrev xw_M : Type := Nat → Nat → Int32
def xw_st (h : xw_M) (k j : Nat) (v : Int32) : xw_M := fun a => if a = k then upd (h a) j v else h a
/-- the kind of a code: 0 Channel, 1 Clock, 2 Fiber, 3 Queue, 4 Step, 5 WaterFibers, 8 channels (4), 9 fibers (8), 10 steps (12), 11 ints (8); the law's own classes 6 and 7 have codes of their own -/
def xw_kr (r : Nat) : Nat := if r = 0 then 1 else if r = 1 then 8 else if r = 2 then 9 else if r = 3 then 3 else if r = 4 then 11 else if r < 40 then (if (r - 5) % 7 = 0 then 0 else if (r - 5) % 7 % 2 = 1 then 3 else 11) else (if (r - 40) % 15 = 0 then 2 else if (r - 40) % 15 = 1 then 10 else 4)
def xw_kd (k : Nat) : Nat := if k < 175 then xw_kr k else if k < 350 then xw_kr (k - 175) else if k = 350 then 5 else 99
def xw_fs (ad : Nat → Nat) (κ k : Nat) (g : Nat → Int32) : List Value := match κ with
  | 0 => [.int (g 0), .ref (ad (k + 1)), .ref (ad (k + 3)), .ref (ad (k + 5))]
  | 1 => [.ref (ad (k + 1)), .ref (ad (k + 2)), .ref (ad (k + 33)), .ref (ad (k + 160)), .ref (ad (k + 3)), .int (g 5), .int (g 6), .int (g 7), .int (g 8)]
  | 2 => [.int (g 0), .int (g 1), .int (g 2), .int (g 3), .int (g 4), .int (g 5), .int (g 6), .int (g 7), .ref (ad (k + 1)), .ref (ad (k + 14))]
  | 3 => [.ref (ad (k + 1)), .int (g 1)]
  | 4 => [.int (g 0), .int (g 1), .int (g 2), .int (g 3)]
  | 5 => [.ref (ad 0), .ref (ad 175)]
  | _ => []
/-- where the machine has all this: the classes' numbers and slots, the array classes, the addresses of the codes, where the new cells begin, how many codes there are -/
abbrev xw_G : Type := (Nat → ClassId) × (Nat → Nat → Nat) × (Nat → ClassId) × (Nat → Nat) × Nat × Nat × Nat × Nat × (Nat → Int32)
abbrev xg_D (G : xw_G) : va_G := (G.1, G.2.1)
abbrev xg_T (G : xw_G) : Nat → ClassId := G.2.2.1
abbrev xg_ad (G : xw_G) : Nat → Nat := G.2.2.2.1
abbrev xg_z (G : xw_G) : Nat := G.2.2.2.2.1
abbrev xg_N (G : xw_G) : Nat := G.2.2.2.2.2.1
/-- the script: where, how long, what -/
abbrev xg_b (G : xw_G) : Nat := G.2.2.2.2.2.2.1
abbrev xg_L (G : xw_G) : Nat := G.2.2.2.2.2.2.2.1
abbrev xg_xs (G : xw_G) : Nat → Int32 := G.2.2.2.2.2.2.2.2
/-- the class's own cells; and all that is new -/
abbrev xg_A (G : xw_G) : Nat → Prop := fun q => ∃ k, k < xg_N G ∧ q = xg_ad G k
abbrev xg_B (G : xw_G) : Nat → Prop := fun q => xg_z G ≤ q
def xw_ct (T : Nat → ClassId) (ad : Nat → Nat) (κ k : Nat) (g : Nat → Int32) : va_E := match κ with
  | 8 => .inl (T 1, 4, .inr (.inr (.inr (.inr (fun i => some (ad (k + 4 + 7 * i)))))))
  | 9 => .inl (T 2, 8, .inr (.inr (.inr (.inr (fun i => some (ad (k + 38 + 15 * i)))))))
  | 10 => .inl (T 3, 12, .inr (.inr (.inr (.inr (fun i => some (ad (k + 1 + i)))))))
  | 11 => .inl (T 0, 8, .inl g)
  | κ => .inr (κ, xw_fs ad κ k g)
abbrev xw_ce (G : xw_G) (h : xw_M) (k : Nat) : va_E := xw_ct (xg_T G) (xg_ad G) (xw_kd k) k (h k)
def xw_ws (G : xw_G) (h : xw_M) : va_W := (List.range (xg_N G)).map (fun k => (xg_ad G k, xw_ce G h k))
def xw_P (G : xw_G) (h : xw_M) (H : Heap) : Prop := va_P (xg_D G) vwCl (xw_ws G h) H
def xw_tys (G : xw_G) : List (ClassId × FieldType) := [(xg_T G 0, .int), (xg_T G 1, .object RX0), (xg_T G 2, .object RX2), (xg_T G 3, .object RX4), (xg_T G 4, .boolean), (xg_T G 5, .array .int), (xg_T G 6, .object RX6)]
def xw_ok (G : xw_G) : Prop := 351 ≤ xg_N G ∧ (∀ i j, i < xg_N G → j < xg_N G → xg_ad G i = xg_ad G j → i = j) ∧ ∀ k, k < xg_N G → xg_z G ≤ xg_ad G k
theorem xw_lt {k κ : Nat} (h : xw_kd k = κ) (hκ : κ < 13) : k < 351 := by
  rcases Nat.lt_or_ge k 351 with q | q
  · exact q
  · exfalso
    unfold xw_kd at h
    rw [if_neg (by omega), if_neg (by omega), if_neg (by omega)] at h
    omega
theorem xw_get {G : xw_G} {h : xw_M} {k : Nat} (hk : k < xg_N G) : (xw_ws G h)[k]? = some (xg_ad G k, xw_ce G h k) := by
  unfold xw_ws
  rw [List.getElem?_map, List.getElem?_range hk]
  rfl
theorem xw_at {G : xw_G} {h : xw_M} {k : Nat} {q : Nat × va_E} (hq : (xw_ws G h)[k]? = some q) : k < xg_N G ∧ q = (xg_ad G k, xw_ce G h k) := by
  have hl : k < xg_N G := by
    have h1 := (List.getElem?_eq_some_iff.mp hq).1
    unfold xw_ws at h1
    rw [List.length_map, List.length_range] at h1
    exact h1
  rw [xw_get hl] at hq
  exact ⟨hl, (Option.some.inj hq).symm⟩
theorem xw_D {G : xw_G} (hG : xw_ok G) (h : xw_M) : va_D (xg_A G) (xw_ws G h) := by
  refine ⟨fun i j p q hi hj hpq => ?_, fun k q hk => ?_⟩
  · obtain ⟨h1, rfl⟩ := xw_at hi
    obtain ⟨h2, rfl⟩ := xw_at hj
    exact hG.2.1 i j h1 h2 hpq
  · obtain ⟨h1, rfl⟩ := xw_at hk
    exact ⟨k, h1, rfl⟩
theorem xw_set {G : xw_G} {h h' : xw_M} {k : Nat} {e : va_E} (hk : k < xg_N G) (he : xw_ce G h' k = e) (ho : ∀ j, j ≠ k → xw_ce G h' j = xw_ce G h j) : (xw_ws G h).set k (xg_ad G k, e) = xw_ws G h' := by
  apply List.ext_getElem?
  intro j
  by_cases hj : j = k
  · subst hj
    have hl : j < (xw_ws G h).length := by unfold xw_ws; rw [List.length_map, List.length_range]; exact hk
    rw [List.getElem?_set_self hl, xw_get hk, he]
  · rw [List.getElem?_set_ne (Ne.symm hj)]
    rcases Nat.lt_or_ge j (xg_N G) with q | q
    · rw [xw_get q, xw_get q, ho j hj]
    · have l1 : (xw_ws G h).length ≤ j := by unfold xw_ws; rw [List.length_map, List.length_range]; exact q
      have l2 : (xw_ws G h').length ≤ j := by unfold xw_ws; rw [List.length_map, List.length_range]; exact q
      rw [List.getElem?_eq_none l1, List.getElem?_eq_none l2]
theorem xw_st_eq (h : xw_M) (k j : Nat) (v : Int32) : xw_st h k j v k = upd (h k) j v := by unfold xw_st; rw [if_pos rfl]
theorem xw_st_ne (h : xw_M) (k j : Nat) (v : Int32) {a : Nat} (ha : a ≠ k) : xw_st h k j v a = h a := by unfold xw_st; rw [if_neg ha]
theorem xw_set_st {G : xw_G} {h : xw_M} {k j : Nat} {v : Int32} {e : va_E} (hk : k < xg_N G) (he : xw_ct (xg_T G) (xg_ad G) (xw_kd k) k (upd (h k) j v) = e) : (xw_ws G h).set k (xg_ad G k, e) = xw_ws G (xw_st h k j v) :=
  xw_set hk (by unfold xw_ce; rw [xw_st_eq]; exact he) (fun a ha => by unfold xw_ce; rw [xw_st_ne h k j v ha])
theorem xw_adlt {G : xw_G} {h : xw_M} {H : Heap} (hP : xw_P G h H) {k : Nat} (hk : k < xg_N G) : xg_ad G k < H.size := (hP k _ (xw_get hk)).lt
theorem xw_zlt {G : xw_G} {h : xw_M} {H : Heap} (hG : xw_ok G) (hP : xw_P G h H) : xg_z G ≤ H.size := Nat.le_of_lt (Nat.lt_of_le_of_lt (hG.2.2 0 (Nat.lt_of_lt_of_le (by decide) hG.1)) (xw_adlt hP (Nat.lt_of_lt_of_le (by decide) hG.1)))
/-! the good words of the tables -/
def lw_g : List Cond := lw_tbl.filter goodWord
theorem lw_g_in {w : Cond} (h : w ∈ lw_tbl) (hg : goodWord w = true) : w ∈ lw_g := List.mem_filter.mpr ⟨h, hg⟩
theorem lw_g_good {ws : List Cond} (h : ∀ w ∈ ws, w ∈ lw_g) : GoodIn lw_g ws := fun w hw => ⟨h w hw, good_of_word (List.mem_filter.mp (h w hw)).2⟩
theorem lw_g_tbl {w : Cond} (h : w ∈ lw_g) : w ∈ lw_tbl := (List.mem_filter.mp h).1
/-! what a throw, and its catching, needs beside the good words -/
def xw_str : List (String × Nat × String) := [("WaterFibers", 245, "there is no such channel"), ("WaterFibers", 152, "there is no such drop"), ("WaterFibers", 250, "there is no such fiber"), ("WaterFibers", 21, "places is not 1 to 4"), ("WaterFibers", 32, "there are 4 channels"), ("WaterFibers", 47, "there are 8 fibers"), ("WaterFibers", 57, "there is no such kind, or one or two does not fit it"), ("WaterFibers", 68, "the fiber has 12 steps"), ("WaterFibers", 94, "value is not -999 to 999"), ("WaterFibers", 100, "the channel has no room"), ("WaterFibers", 252, "turns is not 1 to 60")]
def xw_exn : List String := ["java/lang/IllegalArgumentException", "java/lang/IllegalStateException", "java/lang/IndexOutOfBoundsException"]
/-- those that are caught -/
def xw_exc : List String := ["java/lang/IllegalArgumentException", "java/lang/IllegalStateException"]
def xw_nw : List Cond := [.castable "java/lang/IllegalArgumentException" "java/lang/IllegalArgumentException", .castable "java/lang/IllegalStateException" "java/lang/IllegalStateException", .castable "java/lang/IndexOutOfBoundsException" "java/lang/IndexOutOfBoundsException", .declares ⟨"java/lang/RuntimeException", "<init>", "()V"⟩, .declares ⟨"java/lang/RuntimeException", "<init>", "(Ljava/lang/String;)V"⟩, .declares ⟨"java/lang/Exception", "<init>", "()V"⟩, .declares ⟨"java/lang/Exception", "<init>", "(Ljava/lang/String;)V"⟩, .declares ⟨"java/lang/Throwable", "<init>", "()V"⟩, .declares ⟨"java/lang/Throwable", "<init>", "(Ljava/lang/String;)V"⟩]
theorem xw_nw_warm {s U : State} (hW : s.WarmedH U.vm) : ∀ w ∈ xw_nw, va_Nw w s → va_Nw w U := by
  intro w hw h
  simp only [xw_nw, List.mem_cons, List.not_mem_nil, or_false] at hw
  rcases hw with rfl | rfl | rfl | rfl | rfl | rfl | rfl | rfl | rfl <;> first | exact va_Nw.warmC hW h | exact va_Nw.warmD hW h
theorem xw_nw_tab : ∀ w ∈ xw_nw, w.onTables = true := by decide +kernel
def xw_X (A : Nat → Prop) (U : State) (H : Heap) : Prop :=
  (∀ q ∈ xw_str, ∃ a : Nat, vk_R q.1 q.2.1 q.2.2 a U) ∧ (∀ w ∈ xw_nw, va_Nw w U) ∧ (∀ x ∈ xw_exn, ∀ y ∈ xw_exc, x ≠ y → va_Nc x y U) ∧ vx_Zq Bundle.tN "UNASSIGNED_STACK" Bundle.steD A U H ∧ vx_Zq Bundle.tN "SUPPRESSED_SENTINEL" Bundle.listD A U H
theorem xw_X.warm {A : Nat → Prop} {s U : State} {H H1 : Heap} (hX : xw_X A s H) (hW : s.WarmedH U.vm) (hk : ∀ a : Nat, a < H.size → ¬ A a → H1[a]? = H[a]?) : xw_X A U H1 :=
  ⟨fun q hq => (hX.1 q hq).imp fun a ha => ha.warm hW, fun w hw => xw_nw_warm hW w hw (hX.2.1 w hw), fun x hx y hy hn => (hX.2.2.1 x hx y hy hn).moved hW.alike, (hX.2.2.2.1.moved hW.alike).kept hk, (hX.2.2.2.2.moved hW.alike).kept hk⟩
theorem xw_X.same {A : Nat → Prop} {s U : State} {H : Heap} (hX : xw_X A s H) (hv : U.vm = s.vm) : xw_X A U H :=
  ⟨fun q hq => (hX.1 q hq).imp fun a ha => ha.same hv, fun w hw => va_Nw.same (xw_nw_tab w hw) hv.symm (hX.2.1 w hw), fun x hx y hy hn => (hX.2.2.1 x hx y hy hn).moved (by rw [hv]; exact Vm.Alike.refl _), hX.2.2.2.1.moved (by rw [hv]; exact Vm.Alike.refl _), hX.2.2.2.2.moved (by rw [hv]; exact Vm.Alike.refl _)⟩
/-- a method's start: the world, the tables -/
def xw_S (G : xw_G) (h : xw_M) (U : State) : Prop := xw_P G h U.heap ∧ va_K (xg_D G) vwCl (xw_tys G) U ∧ xw_ok G ∧ xw_X (xg_A G) U U.heap
theorem xw_blind {G : xw_G} {h : xw_M} {av : List Value} : FrameBlind (va_Pc av (xw_S G h)) := by
  intro a U g mk q
  obtain ⟨q1, q2, q3, q4, q5⟩ := q
  exact ⟨q1, q2, va_K.moved (u := U) (U := U.calling g mk a) (Vm.Alike.refl U.vm) q3, q4, xw_X.same (s := U) (U := U.calling g mk a) q5 rfl⟩
/-! the locals: what is known of each -/
def xj_L (ls : Array Slot) (nL : Nat) (lv : List (Option Value)) : Prop := ls.size = nL ∧ lv_wf ls ∧ ∀ (i : Nat) (v : Value), lv[i]? = some (some v) → ls[i]? = some (.val v)
