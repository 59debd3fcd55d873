def xv_bC (G : xw_G) (w : xv_W) (y : Nat) : xv_W := fun x => if y ≤ x ∧ x < y + 7 then some (xv_cB G y (x - y)) else w x
def xv_bF (G : xw_G) (num : Int32) (w : xv_W) (y : Nat) : xv_W := fun x => if y ≤ x ∧ x < y + 15 then some (xv_fB G num y (x - y)) else w x
theorem xv_bC_eq {G : xw_G} {w : xv_W} {y : Nat} {b : va_E} : xv_kC G (xv_up w y b) y (y + 1) = xv_bC G w y := by
  funext x
  unfold xv_kC xv_bC xv_up xv_cB
  by_cases h : y ≤ x ∧ x < y + 7
  · rw [if_pos h]
    obtain ⟨t, ht, rfl⟩ : ∃ t, t < 7 ∧ x = y + t := ⟨x - y, by omega, by omega⟩
    rw [show y + t - y = t by omega]
    rcases (show t = 0 ∨ t = 1 ∨ t = 2 ∨ t = 3 ∨ t = 4 ∨ t = 5 ∨ t = 6 by omega) with rfl | rfl | rfl | rfl | rfl | rfl | rfl
    all_goals repeat' split
    all_goals first | rfl | omega
  · rw [if_neg h]
    repeat' split
    all_goals first | rfl | omega
theorem xv_bF_eq {G : xw_G} {num : Int32} {w : xv_W} {y : Nat} {b : va_E} : xv_kF G num (xv_up w y b) y (y + 1) 12 = xv_bF G num w y := by
  funext x
  unfold xv_kF xv_bF xv_up xv_fB
  by_cases h : y ≤ x ∧ x < y + 15
  · rw [if_pos h]
    repeat' split
    all_goals first | rfl | omega
  · rw [if_neg h]
    repeat' split
    all_goals first | rfl | omega
theorem fi_RX1_11 : xw_fl RX1 11 1 0 := ⟨_, rfl, by decide, rfl, lw_g_in (by decide +kernel) (by decide +kernel)⟩
theorem fi_RX1_19 : xw_fl RX1 19 1 1 := ⟨_, rfl, by decide, rfl, lw_g_in (by decide +kernel) (by decide +kernel)⟩
theorem fi_RX1_24 : xw_fl RX1 24 1 2 := ⟨_, rfl, by decide, rfl, lw_g_in (by decide +kernel) (by decide +kernel)⟩
theorem fi_RX1_31 : xw_fl RX1 31 1 3 := ⟨_, rfl, by decide, rfl, lw_g_in (by decide +kernel) (by decide +kernel)⟩
theorem fi_RX1_38 : xw_fl RX1 38 1 4 := ⟨_, rfl, by decide, rfl, lw_g_in (by decide +kernel) (by decide +kernel)⟩
set_option maxHeartbeats 4000000 in
set_option maxRecDepth 100000 in
theorem mvX1_loop2 {p : Program} {l : Launch} {e : Env} {s : State} {m : MethodId} {args : Array Value} {below : List Frame} {meth : Method} {c : Code} {G : xw_G} (C : xv_C p s m args meth c G RX1 cX1_init 2) (hr : meth.sig.returnType = none) {w : xv_W} {a z : Nat} (ha : a < z) : ∀ (n f : Nat), f ≤ 8 → 8 < f + n → xv_X p l e { frames := 3, cells := 174, slots := 858, locals := 62 } s m args below meth c G 2 (54 + 15 * f) (266 + 74 * f) (MQ below (xv_Q G (xv_kK G w a z 4 8) (z + 174)) args s 174 858 (xg_B G)) (xv_H G (xv_kK G w a z (4) (f)) (z + 54 + 15 * f)) [some (.ref a), some (.int (nI (f)))] 87 [] := by
  intro n
  induction n with
  | zero => intro f h1 h2; omega
  | succ n ih =>
    intro f hf hn
    refine xv_iload_n C dX1_init_87 rfl ?_
    refine xv_aload_n C dX1_init_88 rfl ?_
    have hz : xv_kK G w a z 4 f (z + 1) = some (xv_Ar G 2 8 (z + 54) 15 f) := by unfold xv_kK; rw [if_neg (by omega), if_neg (by omega), if_pos rfl]
    have hfa : xv_kK G w a z 4 f a = some (xv_Ck z) := by unfold xv_kK; rw [if_pos rfl]
    refine xv_get C hfa fi_RX1_19 rfl dX1_init_89 ?_
    refine xv_alen (t := 2) (v := 8) C hz rfl (by decide) dX1_init_92 ?_
    refine xv_icmp_ge (tgt := 116) C dX1_init_93 (by decide) (fun cc9 => ?_) (fun cc9 => ?_)
    · have h8 : f = 8 := by
        rcases Nat.lt_or_ge f 8 with q | q
        · exact absurd cc9 (nI_ge q (by decide))
        · omega
      subst h8
      exact xv_vret C hr (by decide) (by decide) dX1_init_116
    · have hlt : f < 8 := by
        rcases Nat.lt_or_ge f 8 with q | q
        · exact q
        · exact absurd (nI_le (show 8 ≤ f by omega) (by omega)) cc9
      refine xv_aload_n C dX1_init_96 rfl ?_
      refine xv_get C hfa fi_RX1_19 rfl dX1_init_97 ?_
      refine xv_iload_n C dX1_init_100 rfl ?_
      refine xv_new C nw_RX1_17 (by show 54 + 15 * f + 1 ≤ 174; omega) (by show 266 + 74 * f + 10 ≤ 858; omega) dX1_init_101 ?_
      refine xv_dup C dX1_init_104 rfl ?_
      refine xv_iload_n C dX1_init_105 rfl ?_
      refine xv_call (st := [.ref (z + 54 + 15 * f), .int (nI f), .ref (z + 1)]) C [.int (nI f)] ci_RX1_28 (mvX2_init l G (a := z + 54 + 15 * f) (z := z + 54 + 15 * f + 1) (num := nI f) (by omega) xv_up_eq) rfl ⟨(Nat.le_of_ble_eq_true rfl), (Nat.le_of_ble_eq_true rfl)⟩ (Nat.le_of_ble_eq_true rfl) ⟨by show 54 + 15 * f + 1 + 14 ≤ 174; omega, by show 266 + 74 * f + 10 + 64 ≤ 858; omega⟩ rfl dX1_init_106 ?_
      rw [xv_bF_eq]
      have hz2 : xv_bF G (nI f) (xv_kK G w a z 4 f) (z + 54 + 15 * f) (z + 1) = some (xv_Ar G 2 8 (z + 54) 15 f) := by unfold xv_bF; rw [if_neg (by omega)]; exact hz
      refine xv_aast (t := 2) (ci := 2) C hz2 rfl (show xv_bF G (nI f) _ (z + 54 + 15 * f) (z + 54 + 15 * f) = some (xv_Fb (nI f) (z + 54 + 15 * f + 1)) by unfold xv_bF; rw [if_pos (by omega), Nat.sub_self]; rfl) rfl (vp_in_nI hlt (by decide)) dX1_init_109 ?_
      refine xv_eqH (Pr2 := xv_H G (xv_kK G w a z 4 (f + 1)) (z + 54 + 15 * (f + 1))) (fun H h => ?_) ?_
      · rw [nI_clamp (by omega), xv_ArS rfl] at h
        have e : xv_up (xv_bF G (nI f) (xv_kK G w a z 4 f) (z + 54 + 15 * f)) (z + 1) (xv_Ar G 2 8 (z + 54) 15 (f + 1)) = xv_kK G w a z 4 (f + 1) := by
          funext x
          unfold xv_bF xv_up
          by_cases hy : z + 54 + 15 * f ≤ x ∧ x < z + 54 + 15 * f + 15
          · have e1 : (x - (z + 54)) / 15 = f := by omega
            have e2 : (x - (z + 54)) % 15 = x - (z + 54 + 15 * f) := by omega
            unfold xv_kK
            dsimp only
            rw [e1, e2]
            repeat' split
            all_goals first | rfl | omega
          · unfold xv_kK
            dsimp only
            repeat' split
            all_goals first | rfl | omega
        rw [e] at h
        rw [show z + 54 + 15 * (f + 1) = z + 54 + 15 * f + 1 + 14 by omega]
        exact h
      · refine xv_iinc (v := nI (f + 1)) C dX1_init_110 rfl (nI_1 f) rfl (by decide) ?_
        refine xv_goto (tgt := 87) C dX1_init_113 (by decide) ?_
        refine xv_widen (k := 54 + 15 * (f + 1)) (n := 266 + 74 * (f + 1)) (by omega) (by show 266 + 74 * f + 10 + 64 ≤ _; omega) ?_
        exact ih (f + 1) (by omega) (by omega)
set_option maxHeartbeats 4000000 in
set_option maxRecDepth 100000 in
theorem mvX1_loop1 {p : Program} {l : Launch} {e : Env} {s : State} {m : MethodId} {args : Array Value} {below : List Frame} {meth : Method} {c : Code} {G : xw_G} (C : xv_C p s m args meth c G RX1 cX1_init 2) (hr : meth.sig.returnType = none) {w : xv_W} {a z : Nat} (ha : a < z) : ∀ (n i : Nat), i ≤ 4 → 4 < i + n → xv_X p l e { frames := 3, cells := 174, slots := 858, locals := 62 } s m args below meth c G 2 (26 + 7 * i) (130 + 34 * i) (MQ below (xv_Q G (xv_kK G w a z 4 8) (z + 174)) args s 174 858 (xg_B G)) (xv_H G (xv_kK G w a z (i) (0)) (z + 26 + 7 * i)) [some (.ref a), some (.int (nI (i)))] 57 [] := by
  intro n
  induction n with
  | zero => intro i h1 h2; omega
  | succ n ih =>
    intro i hi hn
    refine xv_iload_n C dX1_init_57 rfl ?_
    refine xv_aload_n C dX1_init_58 rfl ?_
    have hz : xv_kK G w a z i 0 z = some (xv_Ar G 1 4 (z + 26) 7 i) := by unfold xv_kK; rw [if_neg (by omega), if_pos rfl]
    have hfa : xv_kK G w a z i 0 a = some (xv_Ck z) := by unfold xv_kK; rw [if_pos rfl]
    refine xv_get C hfa fi_RX1_11 rfl dX1_init_59 ?_
    refine xv_alen (t := 1) (v := 4) C hz rfl (by decide) dX1_init_62 ?_
    refine xv_icmp_ge (tgt := 85) C dX1_init_63 (by decide) (fun cc9 => ?_) (fun cc9 => ?_)
    · have h4 : i = 4 := by
        rcases Nat.lt_or_ge i 4 with q | q
        · exact absurd cc9 (nI_ge q (by decide))
        · omega
      subst h4
      refine xv_iconst (v := 0) C dX1_init_85 (by decide) ?_
      refine xv_istore_n C dX1_init_86 rfl (by decide) ?_
      exact mvX1_loop2 C hr ha 9 0 (by omega) (by omega)
    · have hlt : i < 4 := by
        rcases Nat.lt_or_ge i 4 with q | q
        · exact q
        · exact absurd (nI_le (show 4 ≤ i by omega) (by omega)) cc9
      refine xv_aload_n C dX1_init_66 rfl ?_
      refine xv_get C hfa fi_RX1_11 rfl dX1_init_67 ?_
      refine xv_iload_n C dX1_init_70 rfl ?_
      refine xv_new C nw_RX1_9 (by show 26 + 7 * i + 1 ≤ 174; omega) (by show 130 + 34 * i + 4 ≤ 858; omega) dX1_init_71 ?_
      refine xv_dup C dX1_init_74 rfl ?_
      refine xv_call (st := [.ref (z + 26 + 7 * i), .int (nI i), .ref z]) C [] ci_RX1_23 (mvX0_init l G (a := z + 26 + 7 * i) (z := z + 26 + 7 * i + 1) (by omega) xv_up_eq) rfl ⟨(Nat.le_of_ble_eq_true rfl), (Nat.le_of_ble_eq_true rfl)⟩ (Nat.le_of_ble_eq_true rfl) ⟨by show 26 + 7 * i + 1 + 6 ≤ 174; omega, by show 130 + 34 * i + 4 + 30 ≤ 858; omega⟩ rfl dX1_init_75 ?_
      rw [xv_bC_eq]
      have hz2 : xv_bC G (xv_kK G w a z i 0) (z + 26 + 7 * i) z = some (xv_Ar G 1 4 (z + 26) 7 i) := by unfold xv_bC; rw [if_neg (by omega)]; exact hz
      refine xv_aast (t := 1) (ci := 0) C hz2 rfl (show xv_bC G _ (z + 26 + 7 * i) (z + 26 + 7 * i) = some (xv_Ch (z + 26 + 7 * i + 1)) by unfold xv_bC; rw [if_pos (by omega), Nat.sub_self]; rfl) rfl (vp_in_nI hlt (by decide)) dX1_init_78 ?_
      refine xv_eqH (Pr2 := xv_H G (xv_kK G w a z (i + 1) 0) (z + 26 + 7 * (i + 1))) (fun H h => ?_) ?_
      · rw [nI_clamp (by omega), xv_ArS rfl] at h
        have e : xv_up (xv_bC G (xv_kK G w a z i 0) (z + 26 + 7 * i)) z (xv_Ar G 1 4 (z + 26) 7 (i + 1)) = xv_kK G w a z (i + 1) 0 := by
          funext x
          unfold xv_bC xv_up
          by_cases hy : z + 26 + 7 * i ≤ x ∧ x < z + 26 + 7 * i + 7
          · have e1 : (x - (z + 26)) / 7 = i := by omega
            have e2 : (x - (z + 26)) % 7 = x - (z + 26 + 7 * i) := by omega
            unfold xv_kK
            dsimp only
            rw [e1, e2]
            repeat' split
            all_goals first | rfl | omega
          · unfold xv_kK
            dsimp only
            repeat' split
            all_goals first | rfl | omega
        rw [e] at h
        rw [show z + 26 + 7 * (i + 1) = z + 26 + 7 * i + 1 + 6 by omega]
        exact h
      · refine xv_iinc (v := nI (i + 1)) C dX1_init_79 rfl (nI_1 i) rfl (by decide) ?_
        refine xv_goto (tgt := 57) C dX1_init_82 (by decide) ?_
        refine xv_widen (k := 26 + 7 * (i + 1)) (n := 130 + 34 * (i + 1)) (by omega) (by show 130 + 34 * i + 4 + 30 ≤ _; omega) ?_
        exact ih (i + 1) (by omega) (by omega)
set_option maxHeartbeats 4000000 in
set_option maxRecDepth 100000 in
theorem mvX1_init (l : Launch) (G : xw_G) {w : xv_W} {a z : Nat} (ha : a < z) (hw : w a = some (.inr (1, [.null, .null, .null, .null, .null, .int 0, .int 0, .int 0, .int 0]))) : xv_M l G yX1_init cX1_init 2 3 62 174 858 [.ref a] w z (xv_kK G w a z 4 8) (z + 174) := by
  refine xv_of (by decide +kernel) rfl rfl (Nat.le_of_ble_eq_true rfl) ?_
  intro p e s m args below meth c C hr hin
  have C : xv_C p s m args meth c G RX1 cX1_init 2 := C
  show xv_X p l e { frames := 3, cells := 174, slots := 858, locals := 62 } s m args below meth c G 2 0 0 (MQ below (xv_Q G (xv_kK G w a z 4 8) (z + 174)) args s 174 858 (xg_B G)) (xv_H G w z) [some (.ref a), none] 0 []
  refine xv_aload_n C dX1_init_0 rfl ?_
  refine xv_obj C ⟨lw_g_in (by decide +kernel) (by decide +kernel), lw_g_in (by decide +kernel) (by decide +kernel), lw_g_in (by decide +kernel) (by decide +kernel)⟩ dX1_init_1 (Nat.le_of_ble_eq_true rfl) (Nat.le_of_ble_eq_true rfl) ?_
  refine xv_aload_n C dX1_init_4 rfl ?_
  refine xv_iconst (v := 4) C dX1_init_5 (by decide) ?_
  refine xv_newr (t := 1) (n := 4) C rfl C.2.2.2.2.2.2.1.2.1 (by decide) (by decide) (by decide) (by decide) (by decide) (lw_g_in (by decide +kernel) (by decide +kernel)) dX1_init_6 ?_
  rw [xv_Ar0 (b := z + 26) (k := 7)]
  refine xv_put C hin (show xv_up w z _ a = some (.inr (1, [.null, .null, .null, .null, .null, .int 0, .int 0, .int 0, .int 0])) by rw [xv_up_ne (by omega)]; exact hw) fi_RX1_11 ⟨_, rfl, (by decide +kernel : _ = some (.array (.object "WaterFibers$Channel"))), rfl⟩ rfl rfl (by simp) dX1_init_9 ?_
  refine xv_aload_n C dX1_init_12 rfl ?_
  refine xv_bipush (v := 8) C dX1_init_13 (by decide) ?_
  refine xv_newr (t := 2) (n := 8) C rfl C.2.2.2.2.2.2.1.2.2.1 (by decide) (by decide) (by decide) (by decide) (by decide) (lw_g_in (by decide +kernel) (by decide +kernel)) dX1_init_15 ?_
  rw [xv_Ar0 (b := z + 54) (k := 15)]
  refine xv_put C hin (show xv_up (xv_up _ a (.inr (1, [.ref z, .null, .null, .null, .null, .int 0, .int 0, .int 0, .int 0]))) (z + 1) _ a = some (.inr (1, [.ref z, .null, .null, .null, .null, .int 0, .int 0, .int 0, .int 0])) by rw [xv_up_ne (by omega)]; exact xv_up_eq) fi_RX1_19 ⟨_, rfl, (by decide +kernel : _ = some (.array (.object "WaterFibers$Fiber"))), rfl⟩ rfl rfl (by simp) dX1_init_18 ?_
  refine xv_aload_n C dX1_init_21 rfl ?_
  refine xv_new C nw_RX1_9 (by decide) (by decide) dX1_init_22 ?_
  refine xv_dup C dX1_init_25 rfl ?_
  refine xv_call (st := [.ref (z + 2), .ref a]) C [] ci_RX1_23 (mvX0_init l G (a := z + 2) (z := z + 2 + 1) (by omega) xv_up_eq) rfl ⟨(Nat.le_of_ble_eq_true rfl), (Nat.le_of_ble_eq_true rfl)⟩ (Nat.le_of_ble_eq_true rfl) ⟨by decide, by decide⟩ rfl dX1_init_26 ?_
  rw [xv_bC_eq]
  refine xv_put C hin (show xv_bC G (xv_up _ a (.inr (1, [.ref z, .ref (z + 1), .null, .null, .null, .int 0, .int 0, .int 0, .int 0]))) (z + 2) a = some (.inr (1, [.ref z, .ref (z + 1), .null, .null, .null, .int 0, .int 0, .int 0, .int 0])) by unfold xv_bC; rw [if_neg (by omega)]; exact xv_up_eq) fi_RX1_24 ⟨_, rfl, (by decide +kernel : _ = some (.object "WaterFibers$Channel")), rfl⟩ rfl rfl (by simp) dX1_init_29 ?_
  refine xv_aload_n C dX1_init_32 rfl ?_
  refine xv_new C nw_RX1_17 (by decide) (by decide) dX1_init_33 ?_
  refine xv_dup C dX1_init_36 rfl ?_
  refine xv_iconst (v := (-1)) C dX1_init_37 (by decide) ?_
  refine xv_call (st := [.ref (z + 9), .ref a]) C [.int (-1)] ci_RX1_28 (mvX2_init l G (a := z + 9) (z := z + 9 + 1) (num := -1) (by omega) xv_up_eq) rfl ⟨(Nat.le_of_ble_eq_true rfl), (Nat.le_of_ble_eq_true rfl)⟩ (Nat.le_of_ble_eq_true rfl) ⟨by decide, by decide⟩ rfl dX1_init_38 ?_
  rw [xv_bF_eq]
  refine xv_put C hin (show xv_bF G (-1) (xv_up _ a (.inr (1, [.ref z, .ref (z + 1), .ref (z + 2), .null, .null, .int 0, .int 0, .int 0, .int 0]))) (z + 9) a = some (.inr (1, [.ref z, .ref (z + 1), .ref (z + 2), .null, .null, .int 0, .int 0, .int 0, .int 0])) by unfold xv_bF; rw [if_neg (by omega)]; exact xv_up_eq) fi_RX1_31 ⟨_, rfl, (by decide +kernel : _ = some (.object "WaterFibers$Fiber")), rfl⟩ rfl rfl (by simp) dX1_init_41 ?_
  refine xv_aload_n C dX1_init_44 rfl ?_
  refine xv_new C nw_RX1_35 (by decide) (by decide) dX1_init_45 ?_
  refine xv_dup C dX1_init_48 rfl ?_
  refine xv_call (st := [.ref (z + 24), .ref a]) C [] ci_RX1_37 (mvX3_init l G (a := z + 24) (z := z + 24 + 1) (by omega) xv_up_eq) rfl ⟨(Nat.le_of_ble_eq_true rfl), (Nat.le_of_ble_eq_true rfl)⟩ (Nat.le_of_ble_eq_true rfl) ⟨by decide, by decide⟩ rfl dX1_init_49 ?_
  refine xv_put C hin (show xv_kQ G (xv_up (xv_up _ a (.inr (1, [.ref z, .ref (z + 1), .ref (z + 2), .ref (z + 9), .null, .int 0, .int 0, .int 0, .int 0]))) (z + 24) _) (z + 24) (z + 24 + 1) a = some (.inr (1, [.ref z, .ref (z + 1), .ref (z + 2), .ref (z + 9), .null, .int 0, .int 0, .int 0, .int 0])) by unfold xv_kQ; rw [if_neg (by omega), if_neg (by omega), xv_up_ne (by omega)]; exact xv_up_eq) fi_RX1_38 ⟨_, rfl, (by decide +kernel : _ = some (.object "WaterFibers$Queue")), rfl⟩ rfl rfl (by simp) dX1_init_52 ?_
  refine xv_iconst (v := 0) C dX1_init_55 (by decide) ?_
  refine xv_istore_n C dX1_init_56 rfl (by decide) ?_
  refine xv_eqH (Pr2 := xv_H G (xv_kK G w a z 0 0) (z + 26 + 7 * 0)) (fun H h => ?_) ?_
  · have e : xv_up (xv_kQ G (xv_up (xv_up (xv_bF G (-1) (xv_up (xv_bC G (xv_up (xv_up (xv_up (xv_up w z (xv_Ar G 1 4 (z + 26) 7 0)) a (.inr (1, [.ref z, .null, .null, .null, .null, .int 0, .int 0, .int 0, .int 0]))) (z + 1) (xv_Ar G 2 8 (z + 54) 15 0)) a (.inr (1, [.ref z, .ref (z + 1), .null, .null, .null, .int 0, .int 0, .int 0, .int 0]))) (z + 2)) a (.inr (1, [.ref z, .ref (z + 1), .ref (z + 2), .null, .null, .int 0, .int 0, .int 0, .int 0]))) (z + 9)) a (.inr (1, [.ref z, .ref (z + 1), .ref (z + 2), .ref (z + 9), .null, .int 0, .int 0, .int 0, .int 0]))) (z + 24) (.inr (3, [.null, .int 0]))) (z + 24) (z + 24 + 1)) a (xv_Ck z) = xv_kK G w a z 0 0 := by
      funext x
      unfold xv_kK xv_up xv_kQ xv_bF xv_bC
      dsimp only
      repeat' split
      all_goals first | rfl | omega
    rw [← e]
    exact h
  · exact mvX1_loop1 C hr ha 5 0 (by omega) (by omega)
