section
def mX5_meanTurns_b16  (k0 : Nat) : Nat → xw_M → Int32 → Int32 → Option (xw_M × Nat × Int32 × Int32)
  | 0, _, _, _ => none
  | n + 1, h, a1, a2 => (if (h 0 6) ≤ a2 then some (h, 1, a1, (h 0 6)) else (mX1_fiberAt 0 a2 h).bind fun r1 => mX5_meanTurns_b16  k0 n r1.1 ((a1 + (r1.1 r1.2 5))) ((a2 + 1)))
def mX5_meanTurns (k0 : Nat) (h : xw_M) : Option (xw_M × Nat × Int32 × Int32) := (if 0 < (h 0 6) then mX5_meanTurns_b16  (k0) xo_n h ((0 : Int32)) ((0 : Int32)) else some (h, 0, 0, 0))
set_option maxHeartbeats 4000000 in
set_option maxRecDepth 100000 in
theorem mbX5_meanTurns_b16 {p : Program} {l : Launch} {e : Env} {s : State} {m : MethodId} {args : Array Value} {below : List Frame} {meth : Method} {c : Code} {G : xw_G} (C : xj_C p s m args meth c G RX5 cX5_meanTurns 3) (hr : meth.sig.returnType = (some .double)) {q : xw_M × Nat × Int32 × Int32} {Q : State → Prop} (hZ : ∀ (h : xw_M) (lv : List (Option Value)), some (h, 0, 0, 0) = some q → xj_X p l e { frames := 1, cells := 0, slots := 0, locals := 22 } s m args below meth c G 3 0 0 Q h lv 11 [.double FP.dconst0]) (hE : ∀ (h : xw_M) (lv : List (Option Value)) (a b : Int32), some (h, 1, a, b) = some q → xj_X p l e { frames := 1, cells := 0, slots := 0, locals := 22 } s m args below meth c G 3 0 0 Q h lv 57 [.double (FP.i2d b), .double (FP.i2d a)]) {k0 : Nat}  (hk0 : xw_kd k0 = 5) : ∀ (n : Nat) (h : xw_M) (a1 : Int32) (a2 : Int32), mX5_meanTurns_b16  k0 n h a1 a2 = some q → xj_X p l e { frames := 1, cells := 0, slots := 0, locals := 22 } s m args below meth c G 3 0 0 Q h [some (.ref (xg_ad G k0)), some (.int a1), some (.int a2)] 16 [] := by
  intro n
  induction n with
  | zero => intro h a1 a2 hR; exact absurd (show (none : Option (xw_M × Nat × Int32 × Int32)) = some q from hR) (fun z => by cases z)
  | succ n ih =>
    intro h a1 a2 hR
    rw [mX5_meanTurns_b16.eq_2] at hR
    refine xr_iload_n C dX5_meanTurns_16 rfl ?_
    refine xr_aload_n C dX5_meanTurns_17 rfl ?_
    refine xr_get C hk0 fl_RX5_10 rfl dX5_meanTurns_18 ?_
    refine xr_get C kp_5_0 fl_RX5_44 rfl dX5_meanTurns_21 ?_
    refine xr_icmp_ge (tgt := 47) C dX5_meanTurns_24 (by decide) hR (fun hR => ?_) (fun hR => ?_)
    · refine xr_iload_n C dX5_meanTurns_47 rfl ?_
      refine xr_i2d C dX5_meanTurns_48 ?_
      refine xr_aload_n C dX5_meanTurns_49 rfl ?_
      refine xr_get C hk0 fl_RX5_10 rfl dX5_meanTurns_50 ?_
      refine xr_get C kp_5_0 fl_RX5_44 rfl dX5_meanTurns_53 ?_
      refine xr_i2d C dX5_meanTurns_56 ?_
      exact hE _ _ _ _ hR
    · refine xr_iload_n C dX5_meanTurns_27 rfl ?_
      refine xr_aload_n C dX5_meanTurns_28 rfl ?_
      refine xr_get C hk0 fl_RX5_10 rfl dX5_meanTurns_29 ?_
      refine xr_iload_n C dX5_meanTurns_32 rfl ?_
      refine xr_callVr C (st := [.int a1]) [.int a2] cv_RX5_59 kp_5_0 (fun _ zz9 => mcX1_fiberAt l G kp_5_0 zz9) rfl ⟨Nat.le_of_ble_eq_true rfl, Nat.le_of_ble_eq_true rfl⟩ (Nat.le_of_ble_eq_true rfl) ⟨Nat.zero_le _, Nat.zero_le _⟩ rfl dX5_meanTurns_33 hR (fun r1 hr1 hR => ?_)
      refine xr_get C (kr_X1_fiberAt kp_5_0 hr1) fl_RX5_167 rfl dX5_meanTurns_36 ?_
      refine xr_iadd C dX5_meanTurns_39 ?_
      refine xr_istore_n C dX5_meanTurns_40 rfl (by decide) ?_
      refine xr_iinc (v := 1) C dX5_meanTurns_41 rfl (by decide) rfl (by decide) ?_
      refine xr_goto (tgt := 16) C dX5_meanTurns_44 (by decide) ?_
      exact xr_sub (lv9 := [some (.ref (xg_ad G k0)), some (.int (a1 + (r1.1 r1.2 5))), some (.int (a2 + 1))]) (And.intro rfl (And.intro rfl (And.intro rfl trivial))) (ih _ _ _  hR)
set_option maxHeartbeats 4000000 in
set_option maxRecDepth 100000 in
theorem mcX5_meanTurns (l : Launch) (G : xw_G) {k0 : Nat} (hk0 : xw_kd k0 = 5) {h : xw_M} {q : xw_M × Nat × Int32 × Int32} (hR : mX5_meanTurns k0 h = some q) : xc_E l G yX5_meanTurns cX5_meanTurns 3 1 22 [.ref (xg_ad G k0)] h q := by
  refine xc_ofE (by decide +kernel) rfl (Nat.le_of_ble_eq_true rfl) dX5_meanTurns_11 dX5_meanTurns_57 dX5_meanTurns_58 ?_
  intro p e s m args below meth c Q C hr hZ hE
  have C : xj_C p s m args meth c G RX5 cX5_meanTurns 3 := C
  show xj_X p l e { frames := 1, cells := 0, slots := 0, locals := 22 } s m args below meth c G 3 0 0 Q h [some (.ref (xg_ad G k0)), none, none] 0 []
  unfold mX5_meanTurns at hR
  refine xr_aload_n C dX5_meanTurns_0 rfl ?_
  refine xr_get C hk0 fl_RX5_10 rfl dX5_meanTurns_1 ?_
  refine xr_get C kp_5_0 fl_RX5_44 rfl dX5_meanTurns_4 ?_
  refine xr_if_gt (tgt := 12) C dX5_meanTurns_7 (by decide) hR (fun hR => ?_) (fun hR => ?_)
  · refine xr_iconst (v := 0) C dX5_meanTurns_12 (by decide) ?_
    refine xr_istore_n C dX5_meanTurns_13 rfl (by decide) ?_
    refine xr_iconst (v := 0) C dX5_meanTurns_14 (by decide) ?_
    refine xr_istore_n C dX5_meanTurns_15 rfl (by decide) ?_
    exact xr_sub (lv9 := [some (.ref (xg_ad G k0)), some (.int (0 : Int32)), some (.int (0 : Int32))]) (And.intro rfl (And.intro rfl (And.intro rfl trivial))) (mbX5_meanTurns_b16 C hr hZ hE  hk0 _ _ _ _  hR)
  · refine xr_dconst0 C dX5_meanTurns_10 ?_
    exact hZ _ _ hR
end
