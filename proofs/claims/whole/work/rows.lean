section
-- ===== PART A: goes FIRST, ahead of the names: the tables' words, and 'selects' of the private methods out of them =====
/-- a private method of a class that the tables say can be made, by its rows of tables_1 -/
def lw_okq (q : MethodName × Nat) : Prop := (q.1.cls ≠ "java/lang/invoke/MethodHandle" ∧ q.1.cls ≠ "java/lang/invoke/VarHandle") ∧ Cond.instantiable q.1.cls q.2 ∈ tables_1 ∧ Cond.privateMethod q.1 ∈ tables_1 ∧ Cond.instanceMethod q.1 ∈ tables_1
theorem lw_p0 : lw_okq (⟨"WaterFibers$Clock", "wakeSleepers", "()V"⟩, 9) := ⟨⟨by decide +kernel, by decide +kernel⟩, List.mem_of_getElem? (i := 24) (by decide +kernel), List.mem_of_getElem? (i := 279) (by decide +kernel), List.mem_of_getElem? (i := 280) (by decide +kernel)⟩
theorem lw_p1 : lw_okq (⟨"WaterFibers$Clock", "doStep", "(LWaterFibers$Fiber;)Z"⟩, 9) := ⟨⟨by decide +kernel, by decide +kernel⟩, List.mem_of_getElem? (i := 24) (by decide +kernel), List.mem_of_getElem? (i := 299) (by decide +kernel), List.mem_of_getElem? (i := 300) (by decide +kernel)⟩
theorem lw_p2 : lw_okq (⟨"WaterFibers$Clock", "send", "(LWaterFibers$Fiber;II)V"⟩, 9) := ⟨⟨by decide +kernel, by decide +kernel⟩, List.mem_of_getElem? (i := 24) (by decide +kernel), List.mem_of_getElem? (i := 304) (by decide +kernel), List.mem_of_getElem? (i := 305) (by decide +kernel)⟩
theorem lw_p3 : lw_okq (⟨"WaterFibers$Clock", "take", "(LWaterFibers$Fiber;I)V"⟩, 9) := ⟨⟨by decide +kernel, by decide +kernel⟩, List.mem_of_getElem? (i := 24) (by decide +kernel), List.mem_of_getElem? (i := 320) (by decide +kernel), List.mem_of_getElem? (i := 321) (by decide +kernel)⟩
theorem lw_p4 : lw_okq (⟨"WaterFibers$Clock", "waitFor", "(LWaterFibers$Fiber;I)V"⟩, 9) := ⟨⟨by decide +kernel, by decide +kernel⟩, List.mem_of_getElem? (i := 24) (by decide +kernel), List.mem_of_getElem? (i := 324) (by decide +kernel), List.mem_of_getElem? (i := 325) (by decide +kernel)⟩
theorem lw_p5 : lw_okq (⟨"WaterFibers$Clock", "endTurn", "(LWaterFibers$Fiber;)V"⟩, 9) := ⟨⟨by decide +kernel, by decide +kernel⟩, List.mem_of_getElem? (i := 24) (by decide +kernel), List.mem_of_getElem? (i := 333) (by decide +kernel), List.mem_of_getElem? (i := 334) (by decide +kernel)⟩
theorem lw_p6 : lw_okq (⟨"WaterFibers", "checkChannel", "(I)V"⟩, 2) := ⟨⟨by decide +kernel, by decide +kernel⟩, List.mem_of_getElem? (i := 16) (by decide +kernel), List.mem_of_getElem? (i := 360) (by decide +kernel), List.mem_of_getElem? (i := 361) (by decide +kernel)⟩
theorem lw_p7 : lw_okq (⟨"WaterFibers", "isChannel", "(I)Z"⟩, 2) := ⟨⟨by decide +kernel, by decide +kernel⟩, List.mem_of_getElem? (i := 16) (by decide +kernel), List.mem_of_getElem? (i := 364) (by decide +kernel), List.mem_of_getElem? (i := 365) (by decide +kernel)⟩
theorem lw_p8 : lw_okq (⟨"java/lang/Throwable", "fillInStackTrace", "(I)Ljava/lang/Throwable;"⟩, 6) := ⟨⟨by decide +kernel, by decide +kernel⟩, List.mem_of_getElem? (i := 406) (by decide +kernel), List.mem_of_getElem? (i := 404) (by decide +kernel), List.mem_of_getElem? (i := 405) (by decide +kernel)⟩
theorem lw_p9 : lw_okq (⟨"WaterFibers", "checkFiber", "(I)V"⟩, 2) := ⟨⟨by decide +kernel, by decide +kernel⟩, List.mem_of_getElem? (i := 16) (by decide +kernel), List.mem_of_getElem? (i := 458) (by decide +kernel), List.mem_of_getElem? (i := 459) (by decide +kernel)⟩
theorem lw_p10 : lw_okq (⟨"WaterFibers", "isFiber", "(I)Z"⟩, 2) := ⟨⟨by decide +kernel, by decide +kernel⟩, List.mem_of_getElem? (i := 16) (by decide +kernel), List.mem_of_getElem? (i := 462) (by decide +kernel), List.mem_of_getElem? (i := 463) (by decide +kernel)⟩
theorem lw_p11 : lw_okq (⟨"WaterFibers", "isStep", "(IIII)Z"⟩, 2) := ⟨⟨by decide +kernel, by decide +kernel⟩, List.mem_of_getElem? (i := 16) (by decide +kernel), List.mem_of_getElem? (i := 552) (by decide +kernel), List.mem_of_getElem? (i := 553) (by decide +kernel)⟩
theorem lw_p12 : lw_okq (⟨"WaterFibers", "isValue", "(I)Z"⟩, 2) := ⟨⟨by decide +kernel, by decide +kernel⟩, List.mem_of_getElem? (i := 16) (by decide +kernel), List.mem_of_getElem? (i := 556) (by decide +kernel), List.mem_of_getElem? (i := 557) (by decide +kernel)⟩
theorem lw_p13 : lw_okq (⟨"WaterFibers", "checkTurns", "(I)V"⟩, 2) := ⟨⟨by decide +kernel, by decide +kernel⟩, List.mem_of_getElem? (i := 16) (by decide +kernel), List.mem_of_getElem? (i := 587) (by decide +kernel), List.mem_of_getElem? (i := 588) (by decide +kernel)⟩
theorem lw_p14 : lw_okq (⟨"WaterFibersModel", "no", "(I)I"⟩, 9) := ⟨⟨by decide +kernel, by decide +kernel⟩, List.mem_of_getElem? (i := 647) (by decide +kernel), List.mem_of_getElem? (i := 692) (by decide +kernel), List.mem_of_getElem? (i := 693) (by decide +kernel)⟩
theorem lw_p15 : lw_okq (⟨"WaterFibersModel", "isFiber", "(I)Z"⟩, 9) := ⟨⟨by decide +kernel, by decide +kernel⟩, List.mem_of_getElem? (i := 647) (by decide +kernel), List.mem_of_getElem? (i := 704) (by decide +kernel), List.mem_of_getElem? (i := 705) (by decide +kernel)⟩
def lw_privs_1 : List (MethodName × Nat) := [(⟨"WaterFibers$Clock", "wakeSleepers", "()V"⟩, 9), (⟨"WaterFibers$Clock", "doStep", "(LWaterFibers$Fiber;)Z"⟩, 9), (⟨"WaterFibers$Clock", "send", "(LWaterFibers$Fiber;II)V"⟩, 9), (⟨"WaterFibers$Clock", "take", "(LWaterFibers$Fiber;I)V"⟩, 9), (⟨"WaterFibers$Clock", "waitFor", "(LWaterFibers$Fiber;I)V"⟩, 9), (⟨"WaterFibers$Clock", "endTurn", "(LWaterFibers$Fiber;)V"⟩, 9), (⟨"WaterFibers", "checkChannel", "(I)V"⟩, 2), (⟨"WaterFibers", "isChannel", "(I)Z"⟩, 2), (⟨"java/lang/Throwable", "fillInStackTrace", "(I)Ljava/lang/Throwable;"⟩, 6), (⟨"WaterFibers", "checkFiber", "(I)V"⟩, 2), (⟨"WaterFibers", "isFiber", "(I)Z"⟩, 2), (⟨"WaterFibers", "isStep", "(IIII)Z"⟩, 2), (⟨"WaterFibers", "isValue", "(I)Z"⟩, 2), (⟨"WaterFibers", "checkTurns", "(I)V"⟩, 2), (⟨"WaterFibersModel", "no", "(I)I"⟩, 9), (⟨"WaterFibersModel", "isFiber", "(I)Z"⟩, 9)]
theorem lw_r1 : ∀ q ∈ lw_privs_1, lw_okq q := List.forall_mem_cons.mpr ⟨lw_p0, List.forall_mem_cons.mpr ⟨lw_p1, List.forall_mem_cons.mpr ⟨lw_p2, List.forall_mem_cons.mpr ⟨lw_p3, List.forall_mem_cons.mpr ⟨lw_p4, List.forall_mem_cons.mpr ⟨lw_p5, List.forall_mem_cons.mpr ⟨lw_p6, List.forall_mem_cons.mpr ⟨lw_p7, List.forall_mem_cons.mpr ⟨lw_p8, List.forall_mem_cons.mpr ⟨lw_p9, List.forall_mem_cons.mpr ⟨lw_p10, List.forall_mem_cons.mpr ⟨lw_p11, List.forall_mem_cons.mpr ⟨lw_p12, List.forall_mem_cons.mpr ⟨lw_p13, List.forall_mem_cons.mpr ⟨lw_p14, List.forall_mem_cons.mpr ⟨lw_p15, fun _ h => absurd h List.not_mem_nil⟩⟩⟩⟩⟩⟩⟩⟩⟩⟩⟩⟩⟩⟩⟩⟩
theorem lw_p16 : lw_okq (⟨"WaterFibersModel", "isStep", "(IIII)Z"⟩, 9) := ⟨⟨by decide +kernel, by decide +kernel⟩, List.mem_of_getElem? (i := 647) (by decide +kernel), List.mem_of_getElem? (i := 708) (by decide +kernel), List.mem_of_getElem? (i := 709) (by decide +kernel)⟩
theorem lw_p17 : lw_okq (⟨"WaterFibersModel", "isChannel", "(I)Z"⟩, 9) := ⟨⟨by decide +kernel, by decide +kernel⟩, List.mem_of_getElem? (i := 647) (by decide +kernel), List.mem_of_getElem? (i := 712) (by decide +kernel), List.mem_of_getElem? (i := 713) (by decide +kernel)⟩
theorem lw_p18 : lw_okq (⟨"WaterFibersModel", "ready", "(I)V"⟩, 9) := ⟨⟨by decide +kernel, by decide +kernel⟩, List.mem_of_getElem? (i := 647) (by decide +kernel), List.mem_of_getElem? (i := 716) (by decide +kernel), List.mem_of_getElem? (i := 717) (by decide +kernel)⟩
theorem lw_p19 : lw_okq (⟨"WaterFibersModel", "send", "(II)V"⟩, 9) := ⟨⟨by decide +kernel, by decide +kernel⟩, List.mem_of_getElem? (i := 647) (by decide +kernel), List.mem_of_getElem? (i := 724) (by decide +kernel), List.mem_of_getElem? (i := 725) (by decide +kernel)⟩
theorem lw_p20 : lw_okq (⟨"WaterFibersModel", "wake", "(II)V"⟩, 9) := ⟨⟨by decide +kernel, by decide +kernel⟩, List.mem_of_getElem? (i := 647) (by decide +kernel), List.mem_of_getElem? (i := 728) (by decide +kernel), List.mem_of_getElem? (i := 729) (by decide +kernel)⟩
theorem lw_p21 : lw_okq (⟨"WaterFibersModel", "waits", "(III)Z"⟩, 9) := ⟨⟨by decide +kernel, by decide +kernel⟩, List.mem_of_getElem? (i := 647) (by decide +kernel), List.mem_of_getElem? (i := 732) (by decide +kernel), List.mem_of_getElem? (i := 733) (by decide +kernel)⟩
theorem lw_p22 : lw_okq (⟨"WaterFibersModel", "turnOn", "()V"⟩, 9) := ⟨⟨by decide +kernel, by decide +kernel⟩, List.mem_of_getElem? (i := 647) (by decide +kernel), List.mem_of_getElem? (i := 740) (by decide +kernel), List.mem_of_getElem? (i := 741) (by decide +kernel)⟩
theorem lw_p23 : lw_okq (⟨"WaterFibersModel", "go", "(I)V"⟩, 9) := ⟨⟨by decide +kernel, by decide +kernel⟩, List.mem_of_getElem? (i := 647) (by decide +kernel), List.mem_of_getElem? (i := 747) (by decide +kernel), List.mem_of_getElem? (i := 748) (by decide +kernel)⟩
theorem lw_p24 : lw_okq (⟨"WaterFibersModel", "isDone", "(I)Z"⟩, 9) := ⟨⟨by decide +kernel, by decide +kernel⟩, List.mem_of_getElem? (i := 647) (by decide +kernel), List.mem_of_getElem? (i := 751) (by decide +kernel), List.mem_of_getElem? (i := 752) (by decide +kernel)⟩
theorem lw_p25 : lw_okq (⟨"WaterFibersModel", "waitIn", "(II)V"⟩, 9) := ⟨⟨by decide +kernel, by decide +kernel⟩, List.mem_of_getElem? (i := 647) (by decide +kernel), List.mem_of_getElem? (i := 755) (by decide +kernel), List.mem_of_getElem? (i := 756) (by decide +kernel)⟩
theorem lw_p26 : lw_okq (⟨"WaterFibersModel", "take", "(I)I"⟩, 9) := ⟨⟨by decide +kernel, by decide +kernel⟩, List.mem_of_getElem? (i := 647) (by decide +kernel), List.mem_of_getElem? (i := 759) (by decide +kernel), List.mem_of_getElem? (i := 760) (by decide +kernel)⟩
theorem lw_p27 : lw_okq (⟨"WaterFibersModel", "done", "(I)V"⟩, 9) := ⟨⟨by decide +kernel, by decide +kernel⟩, List.mem_of_getElem? (i := 647) (by decide +kernel), List.mem_of_getElem? (i := 763) (by decide +kernel), List.mem_of_getElem? (i := 764) (by decide +kernel)⟩
theorem lw_p28 : lw_okq (⟨"WaterFibersModel", "ok", "(I)I"⟩, 9) := ⟨⟨by decide +kernel, by decide +kernel⟩, List.mem_of_getElem? (i := 647) (by decide +kernel), List.mem_of_getElem? (i := 771) (by decide +kernel), List.mem_of_getElem? (i := 772) (by decide +kernel)⟩
theorem lw_p29 : lw_okq (⟨"WaterFibersModel", "inState", "(I)I"⟩, 9) := ⟨⟨by decide +kernel, by decide +kernel⟩, List.mem_of_getElem? (i := 647) (by decide +kernel), List.mem_of_getElem? (i := 787) (by decide +kernel), List.mem_of_getElem? (i := 788) (by decide +kernel)⟩
theorem lw_p30 : lw_okq (⟨"WaterFibersModel", "first", "()I"⟩, 9) := ⟨⟨by decide +kernel, by decide +kernel⟩, List.mem_of_getElem? (i := 647) (by decide +kernel), List.mem_of_getElem? (i := 799) (by decide +kernel), List.mem_of_getElem? (i := 800) (by decide +kernel)⟩
theorem lw_p31 : lw_okq (⟨"WaterFibersModel", "stuck", "()Z"⟩, 9) := ⟨⟨by decide +kernel, by decide +kernel⟩, List.mem_of_getElem? (i := 647) (by decide +kernel), List.mem_of_getElem? (i := 807) (by decide +kernel), List.mem_of_getElem? (i := 808) (by decide +kernel)⟩
def lw_privs_2 : List (MethodName × Nat) := [(⟨"WaterFibersModel", "isStep", "(IIII)Z"⟩, 9), (⟨"WaterFibersModel", "isChannel", "(I)Z"⟩, 9), (⟨"WaterFibersModel", "ready", "(I)V"⟩, 9), (⟨"WaterFibersModel", "send", "(II)V"⟩, 9), (⟨"WaterFibersModel", "wake", "(II)V"⟩, 9), (⟨"WaterFibersModel", "waits", "(III)Z"⟩, 9), (⟨"WaterFibersModel", "turnOn", "()V"⟩, 9), (⟨"WaterFibersModel", "go", "(I)V"⟩, 9), (⟨"WaterFibersModel", "isDone", "(I)Z"⟩, 9), (⟨"WaterFibersModel", "waitIn", "(II)V"⟩, 9), (⟨"WaterFibersModel", "take", "(I)I"⟩, 9), (⟨"WaterFibersModel", "done", "(I)V"⟩, 9), (⟨"WaterFibersModel", "ok", "(I)I"⟩, 9), (⟨"WaterFibersModel", "inState", "(I)I"⟩, 9), (⟨"WaterFibersModel", "first", "()I"⟩, 9), (⟨"WaterFibersModel", "stuck", "()Z"⟩, 9)]
theorem lw_r2 : ∀ q ∈ lw_privs_2, lw_okq q := List.forall_mem_cons.mpr ⟨lw_p16, List.forall_mem_cons.mpr ⟨lw_p17, List.forall_mem_cons.mpr ⟨lw_p18, List.forall_mem_cons.mpr ⟨lw_p19, List.forall_mem_cons.mpr ⟨lw_p20, List.forall_mem_cons.mpr ⟨lw_p21, List.forall_mem_cons.mpr ⟨lw_p22, List.forall_mem_cons.mpr ⟨lw_p23, List.forall_mem_cons.mpr ⟨lw_p24, List.forall_mem_cons.mpr ⟨lw_p25, List.forall_mem_cons.mpr ⟨lw_p26, List.forall_mem_cons.mpr ⟨lw_p27, List.forall_mem_cons.mpr ⟨lw_p28, List.forall_mem_cons.mpr ⟨lw_p29, List.forall_mem_cons.mpr ⟨lw_p30, List.forall_mem_cons.mpr ⟨lw_p31, fun _ h => absurd h List.not_mem_nil⟩⟩⟩⟩⟩⟩⟩⟩⟩⟩⟩⟩⟩⟩⟩⟩
theorem lw_p32 : lw_okq (⟨"WaterFibersModel", "heldIn", "(I)I"⟩, 9) := ⟨⟨by decide +kernel, by decide +kernel⟩, List.mem_of_getElem? (i := 647) (by decide +kernel), List.mem_of_getElem? (i := 815) (by decide +kernel), List.mem_of_getElem? (i := 816) (by decide +kernel)⟩
theorem lw_p33 : lw_okq (⟨"WaterFibersModel", "waiting", "(II)I"⟩, 9) := ⟨⟨by decide +kernel, by decide +kernel⟩, List.mem_of_getElem? (i := 647) (by decide +kernel), List.mem_of_getElem? (i := 827) (by decide +kernel), List.mem_of_getElem? (i := 828) (by decide +kernel)⟩
theorem lw_p34 : lw_okq (⟨"WaterFibersModel", "ofFiber", "(II)I"⟩, 9) := ⟨⟨by decide +kernel, by decide +kernel⟩, List.mem_of_getElem? (i := 647) (by decide +kernel), List.mem_of_getElem? (i := 839) (by decide +kernel), List.mem_of_getElem? (i := 840) (by decide +kernel)⟩
theorem lw_p35 : lw_okq (⟨"WaterFibersModel", "inLine", "(I)I"⟩, 9) := ⟨⟨by decide +kernel, by decide +kernel⟩, List.mem_of_getElem? (i := 647) (by decide +kernel), List.mem_of_getElem? (i := 863) (by decide +kernel), List.mem_of_getElem? (i := 864) (by decide +kernel)⟩
theorem lw_p36 : lw_okq (⟨"WaterFibersModel", "untilDone", "(I)I"⟩, 9) := ⟨⟨by decide +kernel, by decide +kernel⟩, List.mem_of_getElem? (i := 647) (by decide +kernel), List.mem_of_getElem? (i := 871) (by decide +kernel), List.mem_of_getElem? (i := 872) (by decide +kernel)⟩
theorem lw_p37 : lw_okq (⟨"WaterFibersModel", "keep", "()V"⟩, 9) := ⟨⟨by decide +kernel, by decide +kernel⟩, List.mem_of_getElem? (i := 647) (by decide +kernel), List.mem_of_getElem? (i := 875) (by decide +kernel), List.mem_of_getElem? (i := 876) (by decide +kernel)⟩
theorem lw_p38 : lw_okq (⟨"WaterFibersModel", "bringBack", "()V"⟩, 9) := ⟨⟨by decide +kernel, by decide +kernel⟩, List.mem_of_getElem? (i := 647) (by decide +kernel), List.mem_of_getElem? (i := 879) (by decide +kernel), List.mem_of_getElem? (i := 880) (by decide +kernel)⟩
theorem lw_p39 : lw_okq (⟨"WaterFibersModel", "untilStuck", "()I"⟩, 9) := ⟨⟨by decide +kernel, by decide +kernel⟩, List.mem_of_getElem? (i := 647) (by decide +kernel), List.mem_of_getElem? (i := 887) (by decide +kernel), List.mem_of_getElem? (i := 888) (by decide +kernel)⟩
theorem lw_p40 : lw_okq (⟨"WaterFibersModel", "roomFor", "(I)I"⟩, 9) := ⟨⟨by decide +kernel, by decide +kernel⟩, List.mem_of_getElem? (i := 647) (by decide +kernel), List.mem_of_getElem? (i := 899) (by decide +kernel), List.mem_of_getElem? (i := 900) (by decide +kernel)⟩
def lw_privs_3 : List (MethodName × Nat) := [(⟨"WaterFibersModel", "heldIn", "(I)I"⟩, 9), (⟨"WaterFibersModel", "waiting", "(II)I"⟩, 9), (⟨"WaterFibersModel", "ofFiber", "(II)I"⟩, 9), (⟨"WaterFibersModel", "inLine", "(I)I"⟩, 9), (⟨"WaterFibersModel", "untilDone", "(I)I"⟩, 9), (⟨"WaterFibersModel", "keep", "()V"⟩, 9), (⟨"WaterFibersModel", "bringBack", "()V"⟩, 9), (⟨"WaterFibersModel", "untilStuck", "()I"⟩, 9), (⟨"WaterFibersModel", "roomFor", "(I)I"⟩, 9)]
theorem lw_r3 : ∀ q ∈ lw_privs_3, lw_okq q := List.forall_mem_cons.mpr ⟨lw_p32, List.forall_mem_cons.mpr ⟨lw_p33, List.forall_mem_cons.mpr ⟨lw_p34, List.forall_mem_cons.mpr ⟨lw_p35, List.forall_mem_cons.mpr ⟨lw_p36, List.forall_mem_cons.mpr ⟨lw_p37, List.forall_mem_cons.mpr ⟨lw_p38, List.forall_mem_cons.mpr ⟨lw_p39, List.forall_mem_cons.mpr ⟨lw_p40, fun _ h => absurd h List.not_mem_nil⟩⟩⟩⟩⟩⟩⟩⟩⟩
def lw_privs : List (MethodName × Nat) := lw_privs_1 ++ (lw_privs_2 ++ (lw_privs_3))
def lw_tbl : List Cond := k2_sels lw_privs ++ tables_1
theorem lw_privs_ok : ∀ q ∈ lw_privs, lw_okq q := by
  show ∀ q ∈ lw_privs_1 ++ (lw_privs_2 ++ (lw_privs_3)), lw_okq q
  exact List.forall_mem_append.mpr ⟨lw_r1, List.forall_mem_append.mpr ⟨lw_r2, lw_r3⟩⟩
/-- the streams that the claim lets the run draw from -/
abbrev lw_cs : List Choice := [Jvm.Choice.named "NaN.bits"]
theorem lw_bits : nanBits ∈ lw_cs := by first | decide | exact List.mem_cons_self | simp [lw_cs, nanBits]
end
section
def RX0 : String := "WaterFibers$Channel"
def TX0 : u_T := fun k => match k with
  | 0 => ("WaterFibers$Channel", "places", "I", false)
  | 1 => ("WaterFibers$Channel", "drops", "LWaterFibers$Queue;", true)
  | 2 => ("WaterFibers$Channel", "senders", "LWaterFibers$Queue;", true)
  | _ => ("WaterFibers$Channel", "takers", "LWaterFibers$Queue;", true)
def tyX0 : Nat → FieldType := fun k => match k with
  | 0 => .int
  | 1 => .object "WaterFibers$Queue"
  | 2 => .object "WaterFibers$Queue"
  | _ => .object "WaterFibers$Queue"
abbrev wsX00 : List Cond := u_ws RX0 TX0 4
theorem nmX0 : ∀ a, a < 4 → ∀ b, b < 4 → a ≠ b → (TX0 a).2.1 ≠ (TX0 b).2.1 := by decide +kernel
theorem tyX0_ok : ∀ k, k < 4 → parseFieldDescriptor (TX0 k).2.2.1 = some (tyX0 k) := by decide +kernel
abbrev cX0_init : ByteArray := prog_2_method_1_code
def yX0_init : MethodName := ⟨RX0, "<init>", "()V"⟩
abbrev cX0_hasRoom : ByteArray := prog_2_method_2_code
def yX0_hasRoom : MethodName := ⟨RX0, "hasRoom", "()Z"⟩
abbrev cX0_becomeLike : ByteArray := prog_2_method_3_code
def yX0_becomeLike : MethodName := ⟨RX0, "becomeLike", "(LWaterFibers$Channel;)V"⟩
def RX1 : String := "WaterFibers$Clock"
def TX1 : u_T := fun k => match k with
  | 0 => ("WaterFibers$Clock", "channelRow", "[LWaterFibers$Channel;", true)
  | 1 => ("WaterFibers$Clock", "fiberRow", "[LWaterFibers$Fiber;", true)
  | 2 => ("WaterFibers$Clock", "noChannel", "LWaterFibers$Channel;", true)
  | 3 => ("WaterFibers$Clock", "noFiber", "LWaterFibers$Fiber;", true)
  | 4 => ("WaterFibers$Clock", "line", "LWaterFibers$Queue;", true)
  | 5 => ("WaterFibers$Clock", "channelCount", "I", false)
  | 6 => ("WaterFibers$Clock", "fiberCount", "I", false)
  | 7 => ("WaterFibers$Clock", "now", "I", false)
  | _ => ("WaterFibers$Clock", "idle", "I", false)
def tyX1 : Nat → FieldType := fun k => match k with
  | 0 => .array (.object "WaterFibers$Channel")
  | 1 => .array (.object "WaterFibers$Fiber")
  | 2 => .object "WaterFibers$Channel"
  | 3 => .object "WaterFibers$Fiber"
  | 4 => .object "WaterFibers$Queue"
  | 5 => .int
  | 6 => .int
  | 7 => .int
  | _ => .int
abbrev wsX10 : List Cond := u_ws RX1 TX1 9
theorem nmX1 : ∀ a, a < 9 → ∀ b, b < 9 → a ≠ b → (TX1 a).2.1 ≠ (TX1 b).2.1 := by decide +kernel
theorem tyX1_ok : ∀ k, k < 9 → parseFieldDescriptor (TX1 k).2.2.1 = some (tyX1 k) := by decide +kernel
abbrev cX1_init : ByteArray := prog_3_method_1_code
def yX1_init : MethodName := ⟨RX1, "<init>", "()V"⟩
abbrev cX1_channelAt : ByteArray := prog_3_method_2_code
def yX1_channelAt : MethodName := ⟨RX1, "channelAt", "(I)LWaterFibers$Channel;"⟩
abbrev cX1_fiberAt : ByteArray := prog_3_method_3_code
def yX1_fiberAt : MethodName := ⟨RX1, "fiberAt", "(I)LWaterFibers$Fiber;"⟩
abbrev cX1_becomeLike : ByteArray := prog_3_method_4_code
def yX1_becomeLike : MethodName := ⟨RX1, "becomeLike", "(LWaterFibers$Clock;)V"⟩
abbrev cX1_countDone : ByteArray := prog_3_method_5_code
def yX1_countDone : MethodName := ⟨RX1, "countDone", "()I"⟩
abbrev cX1_allAreDone : ByteArray := prog_3_method_6_code
def yX1_allAreDone : MethodName := ⟨RX1, "allAreDone", "()Z"⟩
abbrev cX1_hasStopped : ByteArray := prog_3_method_7_code
def yX1_hasStopped : MethodName := ⟨RX1, "hasStopped", "()Z"⟩
abbrev cX1_letTurnGoBy : ByteArray := prog_3_method_8_code
def yX1_letTurnGoBy : MethodName := ⟨RX1, "letTurnGoBy", "()V"⟩
abbrev cX1_makeReady : ByteArray := prog_3_method_9_code
def yX1_makeReady : MethodName := ⟨RX1, "makeReady", "(LWaterFibers$Fiber;)V"⟩
abbrev cX1_wakeFirst : ByteArray := prog_3_method_10_code
def yX1_wakeFirst : MethodName := ⟨RX1, "wakeFirst", "(LWaterFibers$Queue;)V"⟩
abbrev cX1_wakeSleepers : ByteArray := prog_3_method_11_code
def yX1_wakeSleepers : MethodName := ⟨RX1, "wakeSleepers", "()V"⟩
abbrev cX1_doStep : ByteArray := prog_3_method_12_code
def yX1_doStep : MethodName := ⟨RX1, "doStep", "(LWaterFibers$Fiber;)Z"⟩
abbrev cX1_send : ByteArray := prog_3_method_13_code
def yX1_send : MethodName := ⟨RX1, "send", "(LWaterFibers$Fiber;II)V"⟩
abbrev cX1_take : ByteArray := prog_3_method_14_code
def yX1_take : MethodName := ⟨RX1, "take", "(LWaterFibers$Fiber;I)V"⟩
abbrev cX1_waitFor : ByteArray := prog_3_method_15_code
def yX1_waitFor : MethodName := ⟨RX1, "waitFor", "(LWaterFibers$Fiber;I)V"⟩
abbrev cX1_endTurn : ByteArray := prog_3_method_16_code
def yX1_endTurn : MethodName := ⟨RX1, "endTurn", "(LWaterFibers$Fiber;)V"⟩
def RX2 : String := "WaterFibers$Fiber"
def TX2 : u_T := fun k => match k with
  | 0 => ("WaterFibers$Fiber", "number", "I", true)
  | 1 => ("WaterFibers$Fiber", "state", "I", false)
  | 2 => ("WaterFibers$Fiber", "place", "I", false)
  | 3 => ("WaterFibers$Fiber", "sum", "I", false)
  | 4 => ("WaterFibers$Fiber", "stepsBehind", "I", false)
  | 5 => ("WaterFibers$Fiber", "turnsHad", "I", false)
  | 6 => ("WaterFibers$Fiber", "wakesAt", "I", false)
  | 7 => ("WaterFibers$Fiber", "stepCount", "I", false)
  | 8 => ("WaterFibers$Fiber", "steps", "[LWaterFibers$Step;", true)
  | _ => ("WaterFibers$Fiber", "noStep", "LWaterFibers$Step;", true)
def tyX2 : Nat → FieldType := fun k => match k with
  | 0 => .int
  | 1 => .int
  | 2 => .int
  | 3 => .int
  | 4 => .int
  | 5 => .int
  | 6 => .int
  | 7 => .int
  | 8 => .array (.object "WaterFibers$Step")
  | _ => .object "WaterFibers$Step"
abbrev wsX20 : List Cond := u_ws RX2 TX2 10
theorem nmX2 : ∀ a, a < 10 → ∀ b, b < 10 → a ≠ b → (TX2 a).2.1 ≠ (TX2 b).2.1 := by decide +kernel
theorem tyX2_ok : ∀ k, k < 10 → parseFieldDescriptor (TX2 k).2.2.1 = some (tyX2 k) := by decide +kernel
abbrev cX2_init : ByteArray := prog_4_method_1_code
def yX2_init : MethodName := ⟨RX2, "<init>", "(I)V"⟩
abbrev cX2_stepAt : ByteArray := prog_4_method_2_code
def yX2_stepAt : MethodName := ⟨RX2, "stepAt", "(I)LWaterFibers$Step;"⟩
abbrev cX2_hasStepsLeft : ByteArray := prog_4_method_3_code
def yX2_hasStepsLeft : MethodName := ⟨RX2, "hasStepsLeft", "()Z"⟩
abbrev cX2_moveOn : ByteArray := prog_4_method_4_code
def yX2_moveOn : MethodName := ⟨RX2, "moveOn", "()V"⟩
abbrev cX2_goBack : ByteArray := prog_4_method_5_code
def yX2_goBack : MethodName := ⟨RX2, "goBack", "(LWaterFibers$Step;)V"⟩
abbrev cX2_becomeLike : ByteArray := prog_4_method_6_code
def yX2_becomeLike : MethodName := ⟨RX2, "becomeLike", "(LWaterFibers$Fiber;)V"⟩
def RX3 : String := "WaterFibers$Queue"
def TX3 : u_T := fun k => match k with
  | 0 => ("WaterFibers$Queue", "cells", "[I", true)
  | _ => ("WaterFibers$Queue", "size", "I", false)
def tyX3 : Nat → FieldType := fun k => match k with
  | 0 => .array .int
  | _ => .int
abbrev wsX30 : List Cond := u_ws RX3 TX3 2
theorem nmX3 : ∀ a, a < 2 → ∀ b, b < 2 → a ≠ b → (TX3 a).2.1 ≠ (TX3 b).2.1 := by decide +kernel
theorem tyX3_ok : ∀ k, k < 2 → parseFieldDescriptor (TX3 k).2.2.1 = some (tyX3 k) := by decide +kernel
abbrev cX3_init : ByteArray := prog_5_method_1_code
def yX3_init : MethodName := ⟨RX3, "<init>", "()V"⟩
abbrev cX3_look : ByteArray := prog_5_method_2_code
def yX3_look : MethodName := ⟨RX3, "look", "(I)I"⟩
abbrev cX3_find : ByteArray := prog_5_method_3_code
def yX3_find : MethodName := ⟨RX3, "find", "(I)I"⟩
abbrev cX3_addLast : ByteArray := prog_5_method_4_code
def yX3_addLast : MethodName := ⟨RX3, "addLast", "(I)V"⟩
abbrev cX3_takeFirst : ByteArray := prog_5_method_5_code
def yX3_takeFirst : MethodName := ⟨RX3, "takeFirst", "()I"⟩
abbrev cX3_becomeLike : ByteArray := prog_5_method_6_code
def yX3_becomeLike : MethodName := ⟨RX3, "becomeLike", "(LWaterFibers$Queue;)V"⟩
def RX4 : String := "WaterFibers$Step"
def TX4 : u_T := fun k => match k with
  | 0 => ("WaterFibers$Step", "kind", "I", false)
  | 1 => ("WaterFibers$Step", "one", "I", false)
  | 2 => ("WaterFibers$Step", "two", "I", false)
  | _ => ("WaterFibers$Step", "backs", "I", false)
def tyX4 : Nat → FieldType := fun k => match k with
  | 0 => .int
  | 1 => .int
  | 2 => .int
  | _ => .int
abbrev wsX40 : List Cond := u_ws RX4 TX4 4
theorem nmX4 : ∀ a, a < 4 → ∀ b, b < 4 → a ≠ b → (TX4 a).2.1 ≠ (TX4 b).2.1 := by decide +kernel
theorem tyX4_ok : ∀ k, k < 4 → parseFieldDescriptor (TX4 k).2.2.1 = some (tyX4 k) := by decide +kernel
abbrev cX4_init : ByteArray := prog_6_method_1_code
def yX4_init : MethodName := ⟨RX4, "<init>", "()V"⟩
abbrev cX4_describe : ByteArray := prog_6_method_2_code
def yX4_describe : MethodName := ⟨RX4, "describe", "(III)V"⟩
abbrev cX4_becomeLike : ByteArray := prog_6_method_3_code
def yX4_becomeLike : MethodName := ⟨RX4, "becomeLike", "(LWaterFibers$Step;)V"⟩
def RX5 : String := "WaterFibers"
def TX5 : u_T := fun k => match k with
  | 0 => ("WaterFibers", "real", "LWaterFibers$Clock;", true)
  | _ => ("WaterFibers", "trial", "LWaterFibers$Clock;", true)
def tyX5 : Nat → FieldType := fun k => match k with
  | 0 => .object "WaterFibers$Clock"
  | _ => .object "WaterFibers$Clock"
abbrev wsX50 : List Cond := u_ws RX5 TX5 2
theorem nmX5 : ∀ a, a < 2 → ∀ b, b < 2 → a ≠ b → (TX5 a).2.1 ≠ (TX5 b).2.1 := by decide +kernel
theorem tyX5_ok : ∀ k, k < 2 → parseFieldDescriptor (TX5 k).2.2.1 = some (tyX5 k) := by decide +kernel
abbrev cX5_init : ByteArray := prog_1_method_1_code
def yX5_init : MethodName := ⟨RX5, "<init>", "()V"⟩
abbrev cX5_addChannel : ByteArray := prog_1_method_2_code
def yX5_addChannel : MethodName := ⟨RX5, "addChannel", "(I)I"⟩
abbrev cX5_addFiber : ByteArray := prog_1_method_3_code
def yX5_addFiber : MethodName := ⟨RX5, "addFiber", "()I"⟩
abbrev cX5_addStep : ByteArray := prog_1_method_4_code
def yX5_addStep : MethodName := ⟨RX5, "addStep", "(IIII)I"⟩
abbrev cX5_pour : ByteArray := prog_1_method_5_code
def yX5_pour : MethodName := ⟨RX5, "pour", "(II)I"⟩
abbrev cX5_run : ByteArray := prog_1_method_6_code
def yX5_run : MethodName := ⟨RX5, "run", "(I)I"⟩
abbrev cX5_time : ByteArray := prog_1_method_7_code
def yX5_time : MethodName := ⟨RX5, "time", "()I"⟩
abbrev cX5_channels : ByteArray := prog_1_method_8_code
def yX5_channels : MethodName := ⟨RX5, "channels", "()I"⟩
abbrev cX5_fibers : ByteArray := prog_1_method_9_code
def yX5_fibers : MethodName := ⟨RX5, "fibers", "()I"⟩
abbrev cX5_done : ByteArray := prog_1_method_10_code
def yX5_done : MethodName := ⟨RX5, "done", "()I"⟩
abbrev cX5_idleTurns : ByteArray := prog_1_method_11_code
def yX5_idleTurns : MethodName := ⟨RX5, "idleTurns", "()I"⟩
abbrev cX5_next : ByteArray := prog_1_method_12_code
def yX5_next : MethodName := ⟨RX5, "next", "()I"⟩
abbrev cX5_isStuck : ByteArray := prog_1_method_13_code
def yX5_isStuck : MethodName := ⟨RX5, "isStuck", "()Z"⟩
abbrev cX5_held : ByteArray := prog_1_method_14_code
def yX5_held : MethodName := ⟨RX5, "held", "(I)I"⟩
abbrev cX5_valueAt : ByteArray := prog_1_method_15_code
def yX5_valueAt : MethodName := ⟨RX5, "valueAt", "(II)I"⟩
abbrev cX5_sendersAt : ByteArray := prog_1_method_16_code
def yX5_sendersAt : MethodName := ⟨RX5, "sendersAt", "(I)I"⟩
abbrev cX5_takersAt : ByteArray := prog_1_method_17_code
def yX5_takersAt : MethodName := ⟨RX5, "takersAt", "(I)I"⟩
abbrev cX5_stateOf : ByteArray := prog_1_method_18_code
def yX5_stateOf : MethodName := ⟨RX5, "stateOf", "(I)I"⟩
abbrev cX5_placeOf : ByteArray := prog_1_method_19_code
def yX5_placeOf : MethodName := ⟨RX5, "placeOf", "(I)I"⟩
abbrev cX5_sumOf : ByteArray := prog_1_method_20_code
def yX5_sumOf : MethodName := ⟨RX5, "sumOf", "(I)I"⟩
abbrev cX5_stepsDone : ByteArray := prog_1_method_21_code
def yX5_stepsDone : MethodName := ⟨RX5, "stepsDone", "(I)I"⟩
abbrev cX5_turnsOf : ByteArray := prog_1_method_22_code
def yX5_turnsOf : MethodName := ⟨RX5, "turnsOf", "(I)I"⟩
abbrev cX5_placeInLine : ByteArray := prog_1_method_23_code
def yX5_placeInLine : MethodName := ⟨RX5, "placeInLine", "(I)I"⟩
abbrev cX5_turnsUntilDone : ByteArray := prog_1_method_24_code
def yX5_turnsUntilDone : MethodName := ⟨RX5, "turnsUntilDone", "(I)I"⟩
abbrev cX5_turnsUntilStuck : ByteArray := prog_1_method_25_code
def yX5_turnsUntilStuck : MethodName := ⟨RX5, "turnsUntilStuck", "()I"⟩
abbrev cX5_sumIn : ByteArray := prog_1_method_26_code
def yX5_sumIn : MethodName := ⟨RX5, "sumIn", "(II)I"⟩
abbrev cX5_placesWanted : ByteArray := prog_1_method_27_code
def yX5_placesWanted : MethodName := ⟨RX5, "placesWanted", "(I)I"⟩
abbrev cX5_meanTurns : ByteArray := prog_1_method_28_code
def yX5_meanTurns : MethodName := ⟨RX5, "meanTurns", "()D"⟩
abbrev cX5_digest : ByteArray := prog_1_method_29_code
def yX5_digest : MethodName := ⟨RX5, "digest", "()J"⟩
abbrev cX5_checkChannel : ByteArray := prog_1_method_30_code
def yX5_checkChannel : MethodName := ⟨RX5, "checkChannel", "(I)V"⟩
abbrev cX5_checkFiber : ByteArray := prog_1_method_31_code
def yX5_checkFiber : MethodName := ⟨RX5, "checkFiber", "(I)V"⟩
abbrev cX5_checkTurns : ByteArray := prog_1_method_32_code
def yX5_checkTurns : MethodName := ⟨RX5, "checkTurns", "(I)V"⟩
abbrev cX5_isChannel : ByteArray := prog_1_method_33_code
def yX5_isChannel : MethodName := ⟨RX5, "isChannel", "(I)Z"⟩
abbrev cX5_isFiber : ByteArray := prog_1_method_34_code
def yX5_isFiber : MethodName := ⟨RX5, "isFiber", "(I)Z"⟩
abbrev cX5_isValue : ByteArray := prog_1_method_35_code
def yX5_isValue : MethodName := ⟨RX5, "isValue", "(I)Z"⟩
abbrev cX5_isStep : ByteArray := prog_1_method_36_code
def yX5_isStep : MethodName := ⟨RX5, "isStep", "(IIII)Z"⟩
def RX6 : String := "WaterFibersModel"
def TX6 : u_T := fun k => match k with
  | 0 => ("WaterFibersModel", "thrown", "I", false)
  | 1 => ("WaterFibersModel", "channels", "I", false)
  | 2 => ("WaterFibersModel", "fibers", "I", false)
  | 3 => ("WaterFibersModel", "steps", "[I", true)
  | 4 => ("WaterFibersModel", "kind", "[I", true)
  | 5 => ("WaterFibersModel", "one", "[I", true)
  | 6 => ("WaterFibersModel", "two", "[I", true)
  | 7 => ("WaterFibersModel", "now", "[I", true)
  | _ => ("WaterFibersModel", "kept", "[I", true)
def tyX6 : Nat → FieldType := fun k => match k with
  | 0 => .int
  | 1 => .int
  | 2 => .int
  | 3 => .array .int
  | 4 => .array .int
  | 5 => .array .int
  | 6 => .array .int
  | 7 => .array .int
  | _ => .array .int
abbrev wsX60 : List Cond := u_ws RX6 TX6 9
theorem nmX6 : ∀ a, a < 9 → ∀ b, b < 9 → a ≠ b → (TX6 a).2.1 ≠ (TX6 b).2.1 := by decide +kernel
theorem tyX6_ok : ∀ k, k < 9 → parseFieldDescriptor (TX6 k).2.2.1 = some (tyX6 k) := by decide +kernel
abbrev cX6_init : ByteArray := prog_8_method_1_code
def yX6_init : MethodName := ⟨RX6, "<init>", "()V"⟩
abbrev cX6_thrown : ByteArray := prog_8_method_2_code
def yX6_thrown : MethodName := ⟨RX6, "thrown", "()I"⟩
abbrev cX6_no : ByteArray := prog_8_method_3_code
def yX6_no : MethodName := ⟨RX6, "no", "(I)I"⟩
abbrev cX6_ok : ByteArray := prog_8_method_4_code
def yX6_ok : MethodName := ⟨RX6, "ok", "(I)I"⟩
abbrev cX6_isFrom : ByteArray := prog_8_method_5_code
def yX6_isFrom : MethodName := ⟨RX6, "isFrom", "(III)Z"⟩
abbrev cX6_isChannel : ByteArray := prog_8_method_6_code
def yX6_isChannel : MethodName := ⟨RX6, "isChannel", "(I)Z"⟩
abbrev cX6_isFiber : ByteArray := prog_8_method_7_code
def yX6_isFiber : MethodName := ⟨RX6, "isFiber", "(I)Z"⟩
abbrev cX6_keep : ByteArray := prog_8_method_8_code
def yX6_keep : MethodName := ⟨RX6, "keep", "()V"⟩
abbrev cX6_bringBack : ByteArray := prog_8_method_9_code
def yX6_bringBack : MethodName := ⟨RX6, "bringBack", "()V"⟩
abbrev cX6_ready : ByteArray := prog_8_method_10_code
def yX6_ready : MethodName := ⟨RX6, "ready", "(I)V"⟩
abbrev cX6_wake : ByteArray := prog_8_method_11_code
def yX6_wake : MethodName := ⟨RX6, "wake", "(II)V"⟩
abbrev cX6_waits : ByteArray := prog_8_method_12_code
def yX6_waits : MethodName := ⟨RX6, "waits", "(III)Z"⟩
abbrev cX6_send : ByteArray := prog_8_method_13_code
def yX6_send : MethodName := ⟨RX6, "send", "(II)V"⟩
abbrev cX6_take : ByteArray := prog_8_method_14_code
def yX6_take : MethodName := ⟨RX6, "take", "(I)I"⟩
abbrev cX6_waitIn : ByteArray := prog_8_method_15_code
def yX6_waitIn : MethodName := ⟨RX6, "waitIn", "(II)V"⟩
abbrev cX6_isDone : ByteArray := prog_8_method_16_code
def yX6_isDone : MethodName := ⟨RX6, "isDone", "(I)Z"⟩
abbrev cX6_done : ByteArray := prog_8_method_17_code
def yX6_done : MethodName := ⟨RX6, "done", "(I)V"⟩
abbrev cX6_go : ByteArray := prog_8_method_18_code
def yX6_go : MethodName := ⟨RX6, "go", "(I)V"⟩
abbrev cX6_turnOn : ByteArray := prog_8_method_19_code
def yX6_turnOn : MethodName := ⟨RX6, "turnOn", "()V"⟩
abbrev cX6_addChannel : ByteArray := prog_8_method_20_code
def yX6_addChannel : MethodName := ⟨RX6, "addChannel", "(I)I"⟩
abbrev cX6_addFiber : ByteArray := prog_8_method_21_code
def yX6_addFiber : MethodName := ⟨RX6, "addFiber", "()I"⟩
abbrev cX6_isStep : ByteArray := prog_8_method_22_code
def yX6_isStep : MethodName := ⟨RX6, "isStep", "(IIII)Z"⟩
abbrev cX6_addStep : ByteArray := prog_8_method_23_code
def yX6_addStep : MethodName := ⟨RX6, "addStep", "(IIII)I"⟩
abbrev cX6_pour : ByteArray := prog_8_method_24_code
def yX6_pour : MethodName := ⟨RX6, "pour", "(II)I"⟩
abbrev cX6_run : ByteArray := prog_8_method_25_code
def yX6_run : MethodName := ⟨RX6, "run", "(I)I"⟩
abbrev cX6_time : ByteArray := prog_8_method_26_code
def yX6_time : MethodName := ⟨RX6, "time", "()I"⟩
abbrev cX6_channels : ByteArray := prog_8_method_27_code
def yX6_channels : MethodName := ⟨RX6, "channels", "()I"⟩
abbrev cX6_fibers : ByteArray := prog_8_method_28_code
def yX6_fibers : MethodName := ⟨RX6, "fibers", "()I"⟩
abbrev cX6_inState : ByteArray := prog_8_method_29_code
def yX6_inState : MethodName := ⟨RX6, "inState", "(I)I"⟩
abbrev cX6_done_ : ByteArray := prog_8_method_30_code
def yX6_done_ : MethodName := ⟨RX6, "done", "()I"⟩
abbrev cX6_idleTurns : ByteArray := prog_8_method_31_code
def yX6_idleTurns : MethodName := ⟨RX6, "idleTurns", "()I"⟩
abbrev cX6_first : ByteArray := prog_8_method_32_code
def yX6_first : MethodName := ⟨RX6, "first", "()I"⟩
abbrev cX6_next : ByteArray := prog_8_method_33_code
def yX6_next : MethodName := ⟨RX6, "next", "()I"⟩
abbrev cX6_stuck : ByteArray := prog_8_method_34_code
def yX6_stuck : MethodName := ⟨RX6, "stuck", "()Z"⟩
abbrev cX6_isStuck : ByteArray := prog_8_method_35_code
def yX6_isStuck : MethodName := ⟨RX6, "isStuck", "()Z"⟩
abbrev cX6_heldIn : ByteArray := prog_8_method_36_code
def yX6_heldIn : MethodName := ⟨RX6, "heldIn", "(I)I"⟩
abbrev cX6_held : ByteArray := prog_8_method_37_code
def yX6_held : MethodName := ⟨RX6, "held", "(I)I"⟩
abbrev cX6_valueAt : ByteArray := prog_8_method_38_code
def yX6_valueAt : MethodName := ⟨RX6, "valueAt", "(II)I"⟩
abbrev cX6_waiting : ByteArray := prog_8_method_39_code
def yX6_waiting : MethodName := ⟨RX6, "waiting", "(II)I"⟩
abbrev cX6_sendersAt : ByteArray := prog_8_method_40_code
def yX6_sendersAt : MethodName := ⟨RX6, "sendersAt", "(I)I"⟩
abbrev cX6_takersAt : ByteArray := prog_8_method_41_code
def yX6_takersAt : MethodName := ⟨RX6, "takersAt", "(I)I"⟩
abbrev cX6_ofFiber : ByteArray := prog_8_method_42_code
def yX6_ofFiber : MethodName := ⟨RX6, "ofFiber", "(II)I"⟩
abbrev cX6_stateOf : ByteArray := prog_8_method_43_code
def yX6_stateOf : MethodName := ⟨RX6, "stateOf", "(I)I"⟩
abbrev cX6_placeOf : ByteArray := prog_8_method_44_code
def yX6_placeOf : MethodName := ⟨RX6, "placeOf", "(I)I"⟩
abbrev cX6_sumOf : ByteArray := prog_8_method_45_code
def yX6_sumOf : MethodName := ⟨RX6, "sumOf", "(I)I"⟩
abbrev cX6_stepsDone : ByteArray := prog_8_method_46_code
def yX6_stepsDone : MethodName := ⟨RX6, "stepsDone", "(I)I"⟩
abbrev cX6_turnsOf : ByteArray := prog_8_method_47_code
def yX6_turnsOf : MethodName := ⟨RX6, "turnsOf", "(I)I"⟩
abbrev cX6_inLine : ByteArray := prog_8_method_48_code
def yX6_inLine : MethodName := ⟨RX6, "inLine", "(I)I"⟩
abbrev cX6_placeInLine : ByteArray := prog_8_method_49_code
def yX6_placeInLine : MethodName := ⟨RX6, "placeInLine", "(I)I"⟩
abbrev cX6_untilDone : ByteArray := prog_8_method_50_code
def yX6_untilDone : MethodName := ⟨RX6, "untilDone", "(I)I"⟩
abbrev cX6_turnsUntilDone : ByteArray := prog_8_method_51_code
def yX6_turnsUntilDone : MethodName := ⟨RX6, "turnsUntilDone", "(I)I"⟩
abbrev cX6_untilStuck : ByteArray := prog_8_method_52_code
def yX6_untilStuck : MethodName := ⟨RX6, "untilStuck", "()I"⟩
abbrev cX6_turnsUntilStuck : ByteArray := prog_8_method_53_code
def yX6_turnsUntilStuck : MethodName := ⟨RX6, "turnsUntilStuck", "()I"⟩
abbrev cX6_sumIn : ByteArray := prog_8_method_54_code
def yX6_sumIn : MethodName := ⟨RX6, "sumIn", "(II)I"⟩
abbrev cX6_roomFor : ByteArray := prog_8_method_55_code
def yX6_roomFor : MethodName := ⟨RX6, "roomFor", "(I)I"⟩
abbrev cX6_placesWanted : ByteArray := prog_8_method_56_code
def yX6_placesWanted : MethodName := ⟨RX6, "placesWanted", "(I)I"⟩
abbrev cX6_meanTurns : ByteArray := prog_8_method_57_code
def yX6_meanTurns : MethodName := ⟨RX6, "meanTurns", "()D"⟩
abbrev cX6_digest : ByteArray := prog_8_method_58_code
def yX6_digest : MethodName := ⟨RX6, "digest", "()J"⟩
def RL : String := "WaterFibersLaw"
abbrev cL_addChannel : ByteArray := method_3_code
def yL_addChannel : MethodName := ⟨RL, "addChannel", "(LWaterFibers;I[J)I"⟩
abbrev cL_addFiber : ByteArray := method_4_code
def yL_addFiber : MethodName := ⟨RL, "addFiber", "(LWaterFibers;[J)I"⟩
abbrev cL_addStep : ByteArray := method_5_code
def yL_addStep : MethodName := ⟨RL, "addStep", "(LWaterFibers;IIII[J)I"⟩
abbrev cL_pour : ByteArray := method_6_code
def yL_pour : MethodName := ⟨RL, "pour", "(LWaterFibers;II[J)I"⟩
abbrev cL_run : ByteArray := method_7_code
def yL_run : MethodName := ⟨RL, "run", "(LWaterFibers;I[J)I"⟩
abbrev cL_held : ByteArray := method_8_code
def yL_held : MethodName := ⟨RL, "held", "(LWaterFibers;I[J)I"⟩
abbrev cL_valueAt : ByteArray := method_9_code
def yL_valueAt : MethodName := ⟨RL, "valueAt", "(LWaterFibers;II[J)I"⟩
abbrev cL_sendersAt : ByteArray := method_10_code
def yL_sendersAt : MethodName := ⟨RL, "sendersAt", "(LWaterFibers;I[J)I"⟩
abbrev cL_takersAt : ByteArray := method_11_code
def yL_takersAt : MethodName := ⟨RL, "takersAt", "(LWaterFibers;I[J)I"⟩
abbrev cL_stateOf : ByteArray := method_12_code
def yL_stateOf : MethodName := ⟨RL, "stateOf", "(LWaterFibers;I[J)I"⟩
abbrev cL_placeOf : ByteArray := method_13_code
def yL_placeOf : MethodName := ⟨RL, "placeOf", "(LWaterFibers;I[J)I"⟩
abbrev cL_sumOf : ByteArray := method_14_code
def yL_sumOf : MethodName := ⟨RL, "sumOf", "(LWaterFibers;I[J)I"⟩
abbrev cL_stepsDone : ByteArray := method_15_code
def yL_stepsDone : MethodName := ⟨RL, "stepsDone", "(LWaterFibers;I[J)I"⟩
abbrev cL_turnsOf : ByteArray := method_16_code
def yL_turnsOf : MethodName := ⟨RL, "turnsOf", "(LWaterFibers;I[J)I"⟩
abbrev cL_placeInLine : ByteArray := method_17_code
def yL_placeInLine : MethodName := ⟨RL, "placeInLine", "(LWaterFibers;I[J)I"⟩
abbrev cL_turnsUntilDone : ByteArray := method_18_code
def yL_turnsUntilDone : MethodName := ⟨RL, "turnsUntilDone", "(LWaterFibers;I[J)I"⟩
abbrev cL_sumIn : ByteArray := method_19_code
def yL_sumIn : MethodName := ⟨RL, "sumIn", "(LWaterFibers;II[J)I"⟩
abbrev cL_placesWanted : ByteArray := method_20_code
def yL_placesWanted : MethodName := ⟨RL, "placesWanted", "(LWaterFibers;I[J)I"⟩
abbrev cL_law : ByteArray := code
def yL_law : MethodName := ⟨RL, "law", "([I)Z"⟩
abbrev vwCl : List vw_C := [(RX0, TX0, 4), (RX1, TX1, 9), (RX2, TX2, 10), (RX3, TX3, 2), (RX4, TX4, 4), (RX5, TX5, 2), (RX6, TX6, 9)]
theorem dX0_init_0 : decode cX0_init 0 = .ok (.aload_n 0, 1) := by decide +kernel
theorem dX0_init_1 : decode cX0_init 1 = .ok (.invokespecial 1, 3) := by decide +kernel
theorem dX0_init_4 : decode cX0_init 4 = .ok (.aload_n 0, 1) := by decide +kernel
theorem dX0_init_5 : decode cX0_init 5 = .ok (.new 7, 3) := by decide +kernel
theorem dX0_init_8 : decode cX0_init 8 = .ok (.dup, 1) := by decide +kernel
theorem dX0_init_9 : decode cX0_init 9 = .ok (.invokespecial 9, 3) := by decide +kernel
theorem dX0_init_12 : decode cX0_init 12 = .ok (.putfield 10, 3) := by decide +kernel
theorem dX0_init_15 : decode cX0_init 15 = .ok (.aload_n 0, 1) := by decide +kernel
theorem dX0_init_16 : decode cX0_init 16 = .ok (.new 7, 3) := by decide +kernel
theorem dX0_init_19 : decode cX0_init 19 = .ok (.dup, 1) := by decide +kernel
theorem dX0_init_20 : decode cX0_init 20 = .ok (.invokespecial 9, 3) := by decide +kernel
theorem dX0_init_23 : decode cX0_init 23 = .ok (.putfield 16, 3) := by decide +kernel
theorem dX0_init_26 : decode cX0_init 26 = .ok (.aload_n 0, 1) := by decide +kernel
theorem dX0_init_27 : decode cX0_init 27 = .ok (.new 7, 3) := by decide +kernel
theorem dX0_init_30 : decode cX0_init 30 = .ok (.dup, 1) := by decide +kernel
theorem dX0_init_31 : decode cX0_init 31 = .ok (.invokespecial 9, 3) := by decide +kernel
theorem dX0_init_34 : decode cX0_init 34 = .ok (.putfield 19, 3) := by decide +kernel
theorem dX0_init_37 : decode cX0_init 37 = .ok (.return_, 1) := by decide +kernel
theorem dX0_hasRoom_0 : decode cX0_hasRoom 0 = .ok (.aload_n 0, 1) := by decide +kernel
theorem dX0_hasRoom_1 : decode cX0_hasRoom 1 = .ok (.getfield 10, 3) := by decide +kernel
theorem dX0_hasRoom_4 : decode cX0_hasRoom 4 = .ok (.getfield 22, 3) := by decide +kernel
theorem dX0_hasRoom_7 : decode cX0_hasRoom 7 = .ok (.aload_n 0, 1) := by decide +kernel
theorem dX0_hasRoom_8 : decode cX0_hasRoom 8 = .ok (.getfield 26, 3) := by decide +kernel
theorem dX0_hasRoom_11 : decode cX0_hasRoom 11 = .ok (.if_icmp .ge 7, 3) := by decide +kernel
theorem dX0_hasRoom_14 : decode cX0_hasRoom 14 = .ok (.iconst 1, 1) := by decide +kernel
theorem dX0_hasRoom_15 : decode cX0_hasRoom 15 = .ok (.goto 4, 3) := by decide +kernel
theorem dX0_hasRoom_18 : decode cX0_hasRoom 18 = .ok (.iconst 0, 1) := by decide +kernel
theorem dX0_hasRoom_19 : decode cX0_hasRoom 19 = .ok (.ireturn, 1) := by decide +kernel
theorem dX0_becomeLike_0 : decode cX0_becomeLike 0 = .ok (.aload_n 0, 1) := by decide +kernel
theorem dX0_becomeLike_1 : decode cX0_becomeLike 1 = .ok (.aload_n 1, 1) := by decide +kernel
theorem dX0_becomeLike_2 : decode cX0_becomeLike 2 = .ok (.getfield 26, 3) := by decide +kernel
theorem dX0_becomeLike_5 : decode cX0_becomeLike 5 = .ok (.putfield 26, 3) := by decide +kernel
theorem dX0_becomeLike_8 : decode cX0_becomeLike 8 = .ok (.aload_n 0, 1) := by decide +kernel
theorem dX0_becomeLike_9 : decode cX0_becomeLike 9 = .ok (.getfield 10, 3) := by decide +kernel
theorem dX0_becomeLike_12 : decode cX0_becomeLike 12 = .ok (.aload_n 1, 1) := by decide +kernel
theorem dX0_becomeLike_13 : decode cX0_becomeLike 13 = .ok (.getfield 10, 3) := by decide +kernel
theorem dX0_becomeLike_16 : decode cX0_becomeLike 16 = .ok (.invokevirtual 29, 3) := by decide +kernel
theorem dX0_becomeLike_19 : decode cX0_becomeLike 19 = .ok (.aload_n 0, 1) := by decide +kernel
theorem dX0_becomeLike_20 : decode cX0_becomeLike 20 = .ok (.getfield 16, 3) := by decide +kernel
theorem dX0_becomeLike_23 : decode cX0_becomeLike 23 = .ok (.aload_n 1, 1) := by decide +kernel
theorem dX0_becomeLike_24 : decode cX0_becomeLike 24 = .ok (.getfield 16, 3) := by decide +kernel
theorem dX0_becomeLike_27 : decode cX0_becomeLike 27 = .ok (.invokevirtual 29, 3) := by decide +kernel
theorem dX0_becomeLike_30 : decode cX0_becomeLike 30 = .ok (.aload_n 0, 1) := by decide +kernel
theorem dX0_becomeLike_31 : decode cX0_becomeLike 31 = .ok (.getfield 19, 3) := by decide +kernel
theorem dX0_becomeLike_34 : decode cX0_becomeLike 34 = .ok (.aload_n 1, 1) := by decide +kernel
theorem dX0_becomeLike_35 : decode cX0_becomeLike 35 = .ok (.getfield 19, 3) := by decide +kernel
theorem dX0_becomeLike_38 : decode cX0_becomeLike 38 = .ok (.invokevirtual 29, 3) := by decide +kernel
theorem dX0_becomeLike_41 : decode cX0_becomeLike 41 = .ok (.return_, 1) := by decide +kernel
theorem dX1_init_0 : decode cX1_init 0 = .ok (.aload_n 0, 1) := by decide +kernel
theorem dX1_init_1 : decode cX1_init 1 = .ok (.invokespecial 3, 3) := by decide +kernel
theorem dX1_init_4 : decode cX1_init 4 = .ok (.aload_n 0, 1) := by decide +kernel
theorem dX1_init_5 : decode cX1_init 5 = .ok (.iconst 4, 1) := by decide +kernel
theorem dX1_init_6 : decode cX1_init 6 = .ok (.anewarray 9, 3) := by decide +kernel
theorem dX1_init_9 : decode cX1_init 9 = .ok (.putfield 11, 3) := by decide +kernel
theorem dX1_init_12 : decode cX1_init 12 = .ok (.aload_n 0, 1) := by decide +kernel
theorem dX1_init_13 : decode cX1_init 13 = .ok (.bipush 8, 2) := by decide +kernel
theorem dX1_init_15 : decode cX1_init 15 = .ok (.anewarray 17, 3) := by decide +kernel
theorem dX1_init_18 : decode cX1_init 18 = .ok (.putfield 19, 3) := by decide +kernel
theorem dX1_init_21 : decode cX1_init 21 = .ok (.aload_n 0, 1) := by decide +kernel
theorem dX1_init_22 : decode cX1_init 22 = .ok (.new 9, 3) := by decide +kernel
theorem dX1_init_25 : decode cX1_init 25 = .ok (.dup, 1) := by decide +kernel
theorem dX1_init_26 : decode cX1_init 26 = .ok (.invokespecial 23, 3) := by decide +kernel
theorem dX1_init_29 : decode cX1_init 29 = .ok (.putfield 24, 3) := by decide +kernel
theorem dX1_init_32 : decode cX1_init 32 = .ok (.aload_n 0, 1) := by decide +kernel
theorem dX1_init_33 : decode cX1_init 33 = .ok (.new 17, 3) := by decide +kernel
theorem dX1_init_36 : decode cX1_init 36 = .ok (.dup, 1) := by decide +kernel
theorem dX1_init_37 : decode cX1_init 37 = .ok (.iconst (-1), 1) := by decide +kernel
theorem dX1_init_38 : decode cX1_init 38 = .ok (.invokespecial 28, 3) := by decide +kernel
theorem dX1_init_41 : decode cX1_init 41 = .ok (.putfield 31, 3) := by decide +kernel
theorem dX1_init_44 : decode cX1_init 44 = .ok (.aload_n 0, 1) := by decide +kernel
theorem dX1_init_45 : decode cX1_init 45 = .ok (.new 35, 3) := by decide +kernel
theorem dX1_init_48 : decode cX1_init 48 = .ok (.dup, 1) := by decide +kernel
theorem dX1_init_49 : decode cX1_init 49 = .ok (.invokespecial 37, 3) := by decide +kernel
theorem dX1_init_52 : decode cX1_init 52 = .ok (.putfield 38, 3) := by decide +kernel
theorem dX1_init_55 : decode cX1_init 55 = .ok (.iconst 0, 1) := by decide +kernel
theorem dX1_init_56 : decode cX1_init 56 = .ok (.istore_n 1, 1) := by decide +kernel
theorem dX1_init_57 : decode cX1_init 57 = .ok (.iload_n 1, 1) := by decide +kernel
theorem dX1_init_58 : decode cX1_init 58 = .ok (.aload_n 0, 1) := by decide +kernel
theorem dX1_init_59 : decode cX1_init 59 = .ok (.getfield 11, 3) := by decide +kernel
theorem dX1_init_62 : decode cX1_init 62 = .ok (.arraylength, 1) := by decide +kernel
theorem dX1_init_63 : decode cX1_init 63 = .ok (.if_icmp .ge 22, 3) := by decide +kernel
theorem dX1_init_66 : decode cX1_init 66 = .ok (.aload_n 0, 1) := by decide +kernel
theorem dX1_init_67 : decode cX1_init 67 = .ok (.getfield 11, 3) := by decide +kernel
theorem dX1_init_70 : decode cX1_init 70 = .ok (.iload_n 1, 1) := by decide +kernel
theorem dX1_init_71 : decode cX1_init 71 = .ok (.new 9, 3) := by decide +kernel
theorem dX1_init_74 : decode cX1_init 74 = .ok (.dup, 1) := by decide +kernel
theorem dX1_init_75 : decode cX1_init 75 = .ok (.invokespecial 23, 3) := by decide +kernel
theorem dX1_init_78 : decode cX1_init 78 = .ok (.aastore, 1) := by decide +kernel
theorem dX1_init_79 : decode cX1_init 79 = .ok (.iinc 1 1, 3) := by decide +kernel
theorem dX1_init_82 : decode cX1_init 82 = .ok (.goto (-25), 3) := by decide +kernel
theorem dX1_init_85 : decode cX1_init 85 = .ok (.iconst 0, 1) := by decide +kernel
theorem dX1_init_86 : decode cX1_init 86 = .ok (.istore_n 1, 1) := by decide +kernel
theorem dX1_init_87 : decode cX1_init 87 = .ok (.iload_n 1, 1) := by decide +kernel
theorem dX1_init_88 : decode cX1_init 88 = .ok (.aload_n 0, 1) := by decide +kernel
theorem dX1_init_89 : decode cX1_init 89 = .ok (.getfield 19, 3) := by decide +kernel
theorem dX1_init_92 : decode cX1_init 92 = .ok (.arraylength, 1) := by decide +kernel
theorem dX1_init_93 : decode cX1_init 93 = .ok (.if_icmp .ge 23, 3) := by decide +kernel
theorem dX1_init_96 : decode cX1_init 96 = .ok (.aload_n 0, 1) := by decide +kernel
theorem dX1_init_97 : decode cX1_init 97 = .ok (.getfield 19, 3) := by decide +kernel
theorem dX1_init_100 : decode cX1_init 100 = .ok (.iload_n 1, 1) := by decide +kernel
theorem dX1_init_101 : decode cX1_init 101 = .ok (.new 17, 3) := by decide +kernel
theorem dX1_init_104 : decode cX1_init 104 = .ok (.dup, 1) := by decide +kernel
theorem dX1_init_105 : decode cX1_init 105 = .ok (.iload_n 1, 1) := by decide +kernel
theorem dX1_init_106 : decode cX1_init 106 = .ok (.invokespecial 28, 3) := by decide +kernel
theorem dX1_init_109 : decode cX1_init 109 = .ok (.aastore, 1) := by decide +kernel
theorem dX1_init_110 : decode cX1_init 110 = .ok (.iinc 1 1, 3) := by decide +kernel
theorem dX1_init_113 : decode cX1_init 113 = .ok (.goto (-26), 3) := by decide +kernel
theorem dX1_init_116 : decode cX1_init 116 = .ok (.return_, 1) := by decide +kernel
theorem dX1_channelAt_0 : decode cX1_channelAt 0 = .ok (.iload_n 1, 1) := by decide +kernel
theorem dX1_channelAt_1 : decode cX1_channelAt 1 = .ok (.ifCond .lt 12, 3) := by decide +kernel
theorem dX1_channelAt_4 : decode cX1_channelAt 4 = .ok (.iload_n 1, 1) := by decide +kernel
theorem dX1_channelAt_5 : decode cX1_channelAt 5 = .ok (.aload_n 0, 1) := by decide +kernel
theorem dX1_channelAt_6 : decode cX1_channelAt 6 = .ok (.getfield 11, 3) := by decide +kernel
theorem dX1_channelAt_9 : decode cX1_channelAt 9 = .ok (.arraylength, 1) := by decide +kernel
theorem dX1_channelAt_10 : decode cX1_channelAt 10 = .ok (.if_icmp .lt 8, 3) := by decide +kernel
theorem dX1_channelAt_13 : decode cX1_channelAt 13 = .ok (.aload_n 0, 1) := by decide +kernel
theorem dX1_channelAt_14 : decode cX1_channelAt 14 = .ok (.getfield 24, 3) := by decide +kernel
theorem dX1_channelAt_17 : decode cX1_channelAt 17 = .ok (.areturn, 1) := by decide +kernel
theorem dX1_channelAt_18 : decode cX1_channelAt 18 = .ok (.aload_n 0, 1) := by decide +kernel
theorem dX1_channelAt_19 : decode cX1_channelAt 19 = .ok (.getfield 11, 3) := by decide +kernel
theorem dX1_channelAt_22 : decode cX1_channelAt 22 = .ok (.iload_n 1, 1) := by decide +kernel
theorem dX1_channelAt_23 : decode cX1_channelAt 23 = .ok (.aaload, 1) := by decide +kernel
theorem dX1_channelAt_24 : decode cX1_channelAt 24 = .ok (.astore_n 2, 1) := by decide +kernel
theorem dX1_channelAt_25 : decode cX1_channelAt 25 = .ok (.aload_n 2, 1) := by decide +kernel
theorem dX1_channelAt_26 : decode cX1_channelAt 26 = .ok (.ifnonnull 10, 3) := by decide +kernel
theorem dX1_channelAt_29 : decode cX1_channelAt 29 = .ok (.aload_n 0, 1) := by decide +kernel
theorem dX1_channelAt_30 : decode cX1_channelAt 30 = .ok (.getfield 24, 3) := by decide +kernel
theorem dX1_channelAt_33 : decode cX1_channelAt 33 = .ok (.goto 4, 3) := by decide +kernel
theorem dX1_channelAt_36 : decode cX1_channelAt 36 = .ok (.aload_n 2, 1) := by decide +kernel
theorem dX1_channelAt_37 : decode cX1_channelAt 37 = .ok (.areturn, 1) := by decide +kernel
theorem dX1_fiberAt_0 : decode cX1_fiberAt 0 = .ok (.iload_n 1, 1) := by decide +kernel
theorem dX1_fiberAt_1 : decode cX1_fiberAt 1 = .ok (.ifCond .lt 12, 3) := by decide +kernel
theorem dX1_fiberAt_4 : decode cX1_fiberAt 4 = .ok (.iload_n 1, 1) := by decide +kernel
theorem dX1_fiberAt_5 : decode cX1_fiberAt 5 = .ok (.aload_n 0, 1) := by decide +kernel
theorem dX1_fiberAt_6 : decode cX1_fiberAt 6 = .ok (.getfield 19, 3) := by decide +kernel
theorem dX1_fiberAt_9 : decode cX1_fiberAt 9 = .ok (.arraylength, 1) := by decide +kernel
theorem dX1_fiberAt_10 : decode cX1_fiberAt 10 = .ok (.if_icmp .lt 8, 3) := by decide +kernel
theorem dX1_fiberAt_13 : decode cX1_fiberAt 13 = .ok (.aload_n 0, 1) := by decide +kernel
theorem dX1_fiberAt_14 : decode cX1_fiberAt 14 = .ok (.getfield 31, 3) := by decide +kernel
theorem dX1_fiberAt_17 : decode cX1_fiberAt 17 = .ok (.areturn, 1) := by decide +kernel
theorem dX1_fiberAt_18 : decode cX1_fiberAt 18 = .ok (.aload_n 0, 1) := by decide +kernel
theorem dX1_fiberAt_19 : decode cX1_fiberAt 19 = .ok (.getfield 19, 3) := by decide +kernel
theorem dX1_fiberAt_22 : decode cX1_fiberAt 22 = .ok (.iload_n 1, 1) := by decide +kernel
theorem dX1_fiberAt_23 : decode cX1_fiberAt 23 = .ok (.aaload, 1) := by decide +kernel
theorem dX1_fiberAt_24 : decode cX1_fiberAt 24 = .ok (.astore_n 2, 1) := by decide +kernel
theorem dX1_fiberAt_25 : decode cX1_fiberAt 25 = .ok (.aload_n 2, 1) := by decide +kernel
theorem dX1_fiberAt_26 : decode cX1_fiberAt 26 = .ok (.ifnonnull 10, 3) := by decide +kernel
theorem dX1_fiberAt_29 : decode cX1_fiberAt 29 = .ok (.aload_n 0, 1) := by decide +kernel
theorem dX1_fiberAt_30 : decode cX1_fiberAt 30 = .ok (.getfield 31, 3) := by decide +kernel
theorem dX1_fiberAt_33 : decode cX1_fiberAt 33 = .ok (.goto 4, 3) := by decide +kernel
theorem dX1_fiberAt_36 : decode cX1_fiberAt 36 = .ok (.aload_n 2, 1) := by decide +kernel
theorem dX1_fiberAt_37 : decode cX1_fiberAt 37 = .ok (.areturn, 1) := by decide +kernel
theorem dX1_becomeLike_0 : decode cX1_becomeLike 0 = .ok (.aload_n 0, 1) := by decide +kernel
theorem dX1_becomeLike_1 : decode cX1_becomeLike 1 = .ok (.aload_n 1, 1) := by decide +kernel
theorem dX1_becomeLike_2 : decode cX1_becomeLike 2 = .ok (.getfield 42, 3) := by decide +kernel
theorem dX1_becomeLike_5 : decode cX1_becomeLike 5 = .ok (.putfield 42, 3) := by decide +kernel
theorem dX1_becomeLike_8 : decode cX1_becomeLike 8 = .ok (.aload_n 0, 1) := by decide +kernel
theorem dX1_becomeLike_9 : decode cX1_becomeLike 9 = .ok (.aload_n 1, 1) := by decide +kernel
theorem dX1_becomeLike_10 : decode cX1_becomeLike 10 = .ok (.getfield 46, 3) := by decide +kernel
theorem dX1_becomeLike_13 : decode cX1_becomeLike 13 = .ok (.putfield 46, 3) := by decide +kernel
theorem dX1_becomeLike_16 : decode cX1_becomeLike 16 = .ok (.aload_n 0, 1) := by decide +kernel
theorem dX1_becomeLike_17 : decode cX1_becomeLike 17 = .ok (.aload_n 1, 1) := by decide +kernel
theorem dX1_becomeLike_18 : decode cX1_becomeLike 18 = .ok (.getfield 49, 3) := by decide +kernel
theorem dX1_becomeLike_21 : decode cX1_becomeLike 21 = .ok (.putfield 49, 3) := by decide +kernel
theorem dX1_becomeLike_24 : decode cX1_becomeLike 24 = .ok (.aload_n 0, 1) := by decide +kernel
theorem dX1_becomeLike_25 : decode cX1_becomeLike 25 = .ok (.aload_n 1, 1) := by decide +kernel
theorem dX1_becomeLike_26 : decode cX1_becomeLike 26 = .ok (.getfield 52, 3) := by decide +kernel
theorem dX1_becomeLike_29 : decode cX1_becomeLike 29 = .ok (.putfield 52, 3) := by decide +kernel
theorem dX1_becomeLike_32 : decode cX1_becomeLike 32 = .ok (.aload_n 0, 1) := by decide +kernel
theorem dX1_becomeLike_33 : decode cX1_becomeLike 33 = .ok (.getfield 38, 3) := by decide +kernel
theorem dX1_becomeLike_36 : decode cX1_becomeLike 36 = .ok (.aload_n 1, 1) := by decide +kernel
theorem dX1_becomeLike_37 : decode cX1_becomeLike 37 = .ok (.getfield 38, 3) := by decide +kernel
theorem dX1_becomeLike_40 : decode cX1_becomeLike 40 = .ok (.invokevirtual 55, 3) := by decide +kernel
theorem dX1_becomeLike_43 : decode cX1_becomeLike 43 = .ok (.iconst 0, 1) := by decide +kernel
theorem dX1_becomeLike_44 : decode cX1_becomeLike 44 = .ok (.istore_n 2, 1) := by decide +kernel
theorem dX1_becomeLike_45 : decode cX1_becomeLike 45 = .ok (.iload_n 2, 1) := by decide +kernel
theorem dX1_becomeLike_46 : decode cX1_becomeLike 46 = .ok (.aload_n 0, 1) := by decide +kernel
theorem dX1_becomeLike_47 : decode cX1_becomeLike 47 = .ok (.getfield 42, 3) := by decide +kernel
theorem dX1_becomeLike_50 : decode cX1_becomeLike 50 = .ok (.if_icmp .ge 22, 3) := by decide +kernel
theorem dX1_becomeLike_53 : decode cX1_becomeLike 53 = .ok (.aload_n 0, 1) := by decide +kernel
theorem dX1_becomeLike_54 : decode cX1_becomeLike 54 = .ok (.iload_n 2, 1) := by decide +kernel
theorem dX1_becomeLike_55 : decode cX1_becomeLike 55 = .ok (.invokevirtual 59, 3) := by decide +kernel
theorem dX1_becomeLike_58 : decode cX1_becomeLike 58 = .ok (.aload_n 1, 1) := by decide +kernel
theorem dX1_becomeLike_59 : decode cX1_becomeLike 59 = .ok (.iload_n 2, 1) := by decide +kernel
theorem dX1_becomeLike_60 : decode cX1_becomeLike 60 = .ok (.invokevirtual 59, 3) := by decide +kernel
theorem dX1_becomeLike_63 : decode cX1_becomeLike 63 = .ok (.invokevirtual 63, 3) := by decide +kernel
theorem dX1_becomeLike_66 : decode cX1_becomeLike 66 = .ok (.iinc 2 1, 3) := by decide +kernel
theorem dX1_becomeLike_69 : decode cX1_becomeLike 69 = .ok (.goto (-24), 3) := by decide +kernel
theorem dX1_becomeLike_72 : decode cX1_becomeLike 72 = .ok (.iconst 0, 1) := by decide +kernel
theorem dX1_becomeLike_73 : decode cX1_becomeLike 73 = .ok (.istore_n 2, 1) := by decide +kernel
theorem dX1_becomeLike_74 : decode cX1_becomeLike 74 = .ok (.iload_n 2, 1) := by decide +kernel
theorem dX1_becomeLike_75 : decode cX1_becomeLike 75 = .ok (.aload_n 0, 1) := by decide +kernel
theorem dX1_becomeLike_76 : decode cX1_becomeLike 76 = .ok (.getfield 46, 3) := by decide +kernel
theorem dX1_becomeLike_79 : decode cX1_becomeLike 79 = .ok (.if_icmp .ge 22, 3) := by decide +kernel
theorem dX1_becomeLike_82 : decode cX1_becomeLike 82 = .ok (.aload_n 0, 1) := by decide +kernel
theorem dX1_becomeLike_83 : decode cX1_becomeLike 83 = .ok (.iload_n 2, 1) := by decide +kernel
theorem dX1_becomeLike_84 : decode cX1_becomeLike 84 = .ok (.invokevirtual 66, 3) := by decide +kernel
theorem dX1_becomeLike_87 : decode cX1_becomeLike 87 = .ok (.aload_n 1, 1) := by decide +kernel
theorem dX1_becomeLike_88 : decode cX1_becomeLike 88 = .ok (.iload_n 2, 1) := by decide +kernel
theorem dX1_becomeLike_89 : decode cX1_becomeLike 89 = .ok (.invokevirtual 66, 3) := by decide +kernel
theorem dX1_becomeLike_92 : decode cX1_becomeLike 92 = .ok (.invokevirtual 70, 3) := by decide +kernel
theorem dX1_becomeLike_95 : decode cX1_becomeLike 95 = .ok (.iinc 2 1, 3) := by decide +kernel
theorem dX1_becomeLike_98 : decode cX1_becomeLike 98 = .ok (.goto (-24), 3) := by decide +kernel
theorem dX1_becomeLike_101 : decode cX1_becomeLike 101 = .ok (.return_, 1) := by decide +kernel
theorem dX1_countDone_0 : decode cX1_countDone 0 = .ok (.iconst 0, 1) := by decide +kernel
theorem dX1_countDone_1 : decode cX1_countDone 1 = .ok (.istore_n 1, 1) := by decide +kernel
theorem dX1_countDone_2 : decode cX1_countDone 2 = .ok (.iconst 0, 1) := by decide +kernel
theorem dX1_countDone_3 : decode cX1_countDone 3 = .ok (.istore_n 2, 1) := by decide +kernel
theorem dX1_countDone_4 : decode cX1_countDone 4 = .ok (.iload_n 2, 1) := by decide +kernel
theorem dX1_countDone_5 : decode cX1_countDone 5 = .ok (.aload_n 0, 1) := by decide +kernel
theorem dX1_countDone_6 : decode cX1_countDone 6 = .ok (.getfield 46, 3) := by decide +kernel
theorem dX1_countDone_9 : decode cX1_countDone 9 = .ok (.if_icmp .ge 24, 3) := by decide +kernel
theorem dX1_countDone_12 : decode cX1_countDone 12 = .ok (.aload_n 0, 1) := by decide +kernel
theorem dX1_countDone_13 : decode cX1_countDone 13 = .ok (.iload_n 2, 1) := by decide +kernel
theorem dX1_countDone_14 : decode cX1_countDone 14 = .ok (.invokevirtual 66, 3) := by decide +kernel
theorem dX1_countDone_17 : decode cX1_countDone 17 = .ok (.getfield 73, 3) := by decide +kernel
theorem dX1_countDone_20 : decode cX1_countDone 20 = .ok (.iconst 5, 1) := by decide +kernel
theorem dX1_countDone_21 : decode cX1_countDone 21 = .ok (.if_icmp .ne 6, 3) := by decide +kernel
theorem dX1_countDone_24 : decode cX1_countDone 24 = .ok (.iinc 1 1, 3) := by decide +kernel
theorem dX1_countDone_27 : decode cX1_countDone 27 = .ok (.iinc 2 1, 3) := by decide +kernel
theorem dX1_countDone_30 : decode cX1_countDone 30 = .ok (.goto (-26), 3) := by decide +kernel
theorem dX1_countDone_33 : decode cX1_countDone 33 = .ok (.iload_n 1, 1) := by decide +kernel
theorem dX1_countDone_34 : decode cX1_countDone 34 = .ok (.ireturn, 1) := by decide +kernel
theorem dX1_allAreDone_0 : decode cX1_allAreDone 0 = .ok (.aload_n 0, 1) := by decide +kernel
theorem dX1_allAreDone_1 : decode cX1_allAreDone 1 = .ok (.invokevirtual 76, 3) := by decide +kernel
theorem dX1_allAreDone_4 : decode cX1_allAreDone 4 = .ok (.aload_n 0, 1) := by decide +kernel
theorem dX1_allAreDone_5 : decode cX1_allAreDone 5 = .ok (.getfield 46, 3) := by decide +kernel
theorem dX1_allAreDone_8 : decode cX1_allAreDone 8 = .ok (.if_icmp .ne 7, 3) := by decide +kernel
theorem dX1_allAreDone_11 : decode cX1_allAreDone 11 = .ok (.iconst 1, 1) := by decide +kernel
theorem dX1_allAreDone_12 : decode cX1_allAreDone 12 = .ok (.goto 4, 3) := by decide +kernel
theorem dX1_allAreDone_15 : decode cX1_allAreDone 15 = .ok (.iconst 0, 1) := by decide +kernel
theorem dX1_allAreDone_16 : decode cX1_allAreDone 16 = .ok (.ireturn, 1) := by decide +kernel
theorem dX1_hasStopped_0 : decode cX1_hasStopped 0 = .ok (.iconst 0, 1) := by decide +kernel
theorem dX1_hasStopped_1 : decode cX1_hasStopped 1 = .ok (.istore_n 1, 1) := by decide +kernel
theorem dX1_hasStopped_2 : decode cX1_hasStopped 2 = .ok (.iload_n 1, 1) := by decide +kernel
theorem dX1_hasStopped_3 : decode cX1_hasStopped 3 = .ok (.aload_n 0, 1) := by decide +kernel
theorem dX1_hasStopped_4 : decode cX1_hasStopped 4 = .ok (.getfield 46, 3) := by decide +kernel
theorem dX1_hasStopped_7 : decode cX1_hasStopped 7 = .ok (.if_icmp .ge 29, 3) := by decide +kernel
theorem dX1_hasStopped_10 : decode cX1_hasStopped 10 = .ok (.aload_n 0, 1) := by decide +kernel
theorem dX1_hasStopped_11 : decode cX1_hasStopped 11 = .ok (.iload_n 1, 1) := by decide +kernel
theorem dX1_hasStopped_12 : decode cX1_hasStopped 12 = .ok (.invokevirtual 66, 3) := by decide +kernel
theorem dX1_hasStopped_15 : decode cX1_hasStopped 15 = .ok (.getfield 73, 3) := by decide +kernel
theorem dX1_hasStopped_18 : decode cX1_hasStopped 18 = .ok (.istore_n 2, 1) := by decide +kernel
theorem dX1_hasStopped_19 : decode cX1_hasStopped 19 = .ok (.iload_n 2, 1) := by decide +kernel
theorem dX1_hasStopped_20 : decode cX1_hasStopped 20 = .ok (.ifCond .eq 8, 3) := by decide +kernel
theorem dX1_hasStopped_23 : decode cX1_hasStopped 23 = .ok (.iload_n 2, 1) := by decide +kernel
theorem dX1_hasStopped_24 : decode cX1_hasStopped 24 = .ok (.iconst 3, 1) := by decide +kernel
theorem dX1_hasStopped_25 : decode cX1_hasStopped 25 = .ok (.if_icmp .ne 5, 3) := by decide +kernel
theorem dX1_hasStopped_28 : decode cX1_hasStopped 28 = .ok (.iconst 0, 1) := by decide +kernel
theorem dX1_hasStopped_29 : decode cX1_hasStopped 29 = .ok (.ireturn, 1) := by decide +kernel
theorem dX1_hasStopped_30 : decode cX1_hasStopped 30 = .ok (.iinc 1 1, 3) := by decide +kernel
theorem dX1_hasStopped_33 : decode cX1_hasStopped 33 = .ok (.goto (-31), 3) := by decide +kernel
theorem dX1_hasStopped_36 : decode cX1_hasStopped 36 = .ok (.iconst 1, 1) := by decide +kernel
theorem dX1_hasStopped_37 : decode cX1_hasStopped 37 = .ok (.ireturn, 1) := by decide +kernel
theorem dX1_letTurnGoBy_0 : decode cX1_letTurnGoBy 0 = .ok (.aload_n 0, 1) := by decide +kernel
theorem dX1_letTurnGoBy_1 : decode cX1_letTurnGoBy 1 = .ok (.invokevirtual 80, 3) := by decide +kernel
theorem dX1_letTurnGoBy_4 : decode cX1_letTurnGoBy 4 = .ok (.aload_n 0, 1) := by decide +kernel
theorem dX1_letTurnGoBy_5 : decode cX1_letTurnGoBy 5 = .ok (.getfield 38, 3) := by decide +kernel
theorem dX1_letTurnGoBy_8 : decode cX1_letTurnGoBy 8 = .ok (.getfield 83, 3) := by decide +kernel
theorem dX1_letTurnGoBy_11 : decode cX1_letTurnGoBy 11 = .ok (.ifCond .gt 16, 3) := by decide +kernel
theorem dX1_letTurnGoBy_14 : decode cX1_letTurnGoBy 14 = .ok (.aload_n 0, 1) := by decide +kernel
theorem dX1_letTurnGoBy_15 : decode cX1_letTurnGoBy 15 = .ok (.dup, 1) := by decide +kernel
theorem dX1_letTurnGoBy_16 : decode cX1_letTurnGoBy 16 = .ok (.getfield 52, 3) := by decide +kernel
theorem dX1_letTurnGoBy_19 : decode cX1_letTurnGoBy 19 = .ok (.iconst 1, 1) := by decide +kernel
theorem dX1_letTurnGoBy_20 : decode cX1_letTurnGoBy 20 = .ok (.iadd, 1) := by decide +kernel
theorem dX1_letTurnGoBy_21 : decode cX1_letTurnGoBy 21 = .ok (.putfield 52, 3) := by decide +kernel
theorem dX1_letTurnGoBy_24 : decode cX1_letTurnGoBy 24 = .ok (.goto 62, 3) := by decide +kernel
theorem dX1_letTurnGoBy_27 : decode cX1_letTurnGoBy 27 = .ok (.aload_n 0, 1) := by decide +kernel
theorem dX1_letTurnGoBy_28 : decode cX1_letTurnGoBy 28 = .ok (.aload_n 0, 1) := by decide +kernel
theorem dX1_letTurnGoBy_29 : decode cX1_letTurnGoBy 29 = .ok (.getfield 38, 3) := by decide +kernel
theorem dX1_letTurnGoBy_32 : decode cX1_letTurnGoBy 32 = .ok (.invokevirtual 86, 3) := by decide +kernel
theorem dX1_letTurnGoBy_35 : decode cX1_letTurnGoBy 35 = .ok (.invokevirtual 66, 3) := by decide +kernel
theorem dX1_letTurnGoBy_38 : decode cX1_letTurnGoBy 38 = .ok (.astore_n 1, 1) := by decide +kernel
theorem dX1_letTurnGoBy_39 : decode cX1_letTurnGoBy 39 = .ok (.aload_n 1, 1) := by decide +kernel
theorem dX1_letTurnGoBy_40 : decode cX1_letTurnGoBy 40 = .ok (.dup, 1) := by decide +kernel
theorem dX1_letTurnGoBy_41 : decode cX1_letTurnGoBy 41 = .ok (.getfield 89, 3) := by decide +kernel
theorem dX1_letTurnGoBy_44 : decode cX1_letTurnGoBy 44 = .ok (.iconst 1, 1) := by decide +kernel
theorem dX1_letTurnGoBy_45 : decode cX1_letTurnGoBy 45 = .ok (.iadd, 1) := by decide +kernel
theorem dX1_letTurnGoBy_46 : decode cX1_letTurnGoBy 46 = .ok (.putfield 89, 3) := by decide +kernel
theorem dX1_letTurnGoBy_49 : decode cX1_letTurnGoBy 49 = .ok (.iconst 1, 1) := by decide +kernel
theorem dX1_letTurnGoBy_50 : decode cX1_letTurnGoBy 50 = .ok (.istore_n 2, 1) := by decide +kernel
theorem dX1_letTurnGoBy_51 : decode cX1_letTurnGoBy 51 = .ok (.iconst 0, 1) := by decide +kernel
theorem dX1_letTurnGoBy_52 : decode cX1_letTurnGoBy 52 = .ok (.istore_n 3, 1) := by decide +kernel
theorem dX1_letTurnGoBy_53 : decode cX1_letTurnGoBy 53 = .ok (.iload_n 3, 1) := by decide +kernel
theorem dX1_letTurnGoBy_54 : decode cX1_letTurnGoBy 54 = .ok (.iconst 4, 1) := by decide +kernel
theorem dX1_letTurnGoBy_55 : decode cX1_letTurnGoBy 55 = .ok (.if_icmp .ge 26, 3) := by decide +kernel
theorem dX1_letTurnGoBy_58 : decode cX1_letTurnGoBy 58 = .ok (.iload_n 2, 1) := by decide +kernel
theorem dX1_letTurnGoBy_59 : decode cX1_letTurnGoBy 59 = .ok (.ifCond .eq 22, 3) := by decide +kernel
theorem dX1_letTurnGoBy_62 : decode cX1_letTurnGoBy 62 = .ok (.aload_n 1, 1) := by decide +kernel
theorem dX1_letTurnGoBy_63 : decode cX1_letTurnGoBy 63 = .ok (.invokevirtual 92, 3) := by decide +kernel
theorem dX1_letTurnGoBy_66 : decode cX1_letTurnGoBy 66 = .ok (.ifCond .eq 15, 3) := by decide +kernel
theorem dX1_letTurnGoBy_69 : decode cX1_letTurnGoBy 69 = .ok (.aload_n 0, 1) := by decide +kernel
theorem dX1_letTurnGoBy_70 : decode cX1_letTurnGoBy 70 = .ok (.aload_n 1, 1) := by decide +kernel
theorem dX1_letTurnGoBy_71 : decode cX1_letTurnGoBy 71 = .ok (.invokevirtual 96, 3) := by decide +kernel
theorem dX1_letTurnGoBy_74 : decode cX1_letTurnGoBy 74 = .ok (.istore_n 2, 1) := by decide +kernel
theorem dX1_letTurnGoBy_75 : decode cX1_letTurnGoBy 75 = .ok (.iinc 3 1, 3) := by decide +kernel
theorem dX1_letTurnGoBy_78 : decode cX1_letTurnGoBy 78 = .ok (.goto (-25), 3) := by decide +kernel
theorem dX1_letTurnGoBy_81 : decode cX1_letTurnGoBy 81 = .ok (.aload_n 0, 1) := by decide +kernel
theorem dX1_letTurnGoBy_82 : decode cX1_letTurnGoBy 82 = .ok (.aload_n 1, 1) := by decide +kernel
theorem dX1_letTurnGoBy_83 : decode cX1_letTurnGoBy 83 = .ok (.invokevirtual 100, 3) := by decide +kernel
theorem dX1_letTurnGoBy_86 : decode cX1_letTurnGoBy 86 = .ok (.aload_n 0, 1) := by decide +kernel
theorem dX1_letTurnGoBy_87 : decode cX1_letTurnGoBy 87 = .ok (.dup, 1) := by decide +kernel
theorem dX1_letTurnGoBy_88 : decode cX1_letTurnGoBy 88 = .ok (.getfield 49, 3) := by decide +kernel
theorem dX1_letTurnGoBy_91 : decode cX1_letTurnGoBy 91 = .ok (.iconst 1, 1) := by decide +kernel
theorem dX1_letTurnGoBy_92 : decode cX1_letTurnGoBy 92 = .ok (.iadd, 1) := by decide +kernel
theorem dX1_letTurnGoBy_93 : decode cX1_letTurnGoBy 93 = .ok (.putfield 49, 3) := by decide +kernel
theorem dX1_letTurnGoBy_96 : decode cX1_letTurnGoBy 96 = .ok (.return_, 1) := by decide +kernel
theorem dX1_makeReady_0 : decode cX1_makeReady 0 = .ok (.aload_n 1, 1) := by decide +kernel
theorem dX1_makeReady_1 : decode cX1_makeReady 1 = .ok (.iconst 0, 1) := by decide +kernel
theorem dX1_makeReady_2 : decode cX1_makeReady 2 = .ok (.putfield 73, 3) := by decide +kernel
theorem dX1_makeReady_5 : decode cX1_makeReady 5 = .ok (.aload_n 0, 1) := by decide +kernel
theorem dX1_makeReady_6 : decode cX1_makeReady 6 = .ok (.getfield 38, 3) := by decide +kernel
theorem dX1_makeReady_9 : decode cX1_makeReady 9 = .ok (.aload_n 1, 1) := by decide +kernel
theorem dX1_makeReady_10 : decode cX1_makeReady 10 = .ok (.getfield 103, 3) := by decide +kernel
theorem dX1_makeReady_13 : decode cX1_makeReady 13 = .ok (.invokevirtual 106, 3) := by decide +kernel
theorem dX1_makeReady_16 : decode cX1_makeReady 16 = .ok (.return_, 1) := by decide +kernel
theorem dX1_wakeFirst_0 : decode cX1_wakeFirst 0 = .ok (.aload_n 1, 1) := by decide +kernel
theorem dX1_wakeFirst_1 : decode cX1_wakeFirst 1 = .ok (.getfield 83, 3) := by decide +kernel
theorem dX1_wakeFirst_4 : decode cX1_wakeFirst 4 = .ok (.ifCond .le 28, 3) := by decide +kernel
theorem dX1_wakeFirst_7 : decode cX1_wakeFirst 7 = .ok (.aload_n 0, 1) := by decide +kernel
theorem dX1_wakeFirst_8 : decode cX1_wakeFirst 8 = .ok (.aload_n 1, 1) := by decide +kernel
theorem dX1_wakeFirst_9 : decode cX1_wakeFirst 9 = .ok (.invokevirtual 86, 3) := by decide +kernel
theorem dX1_wakeFirst_12 : decode cX1_wakeFirst 12 = .ok (.invokevirtual 66, 3) := by decide +kernel
theorem dX1_wakeFirst_15 : decode cX1_wakeFirst 15 = .ok (.astore_n 2, 1) := by decide +kernel
theorem dX1_wakeFirst_16 : decode cX1_wakeFirst 16 = .ok (.aload_n 2, 1) := by decide +kernel
theorem dX1_wakeFirst_17 : decode cX1_wakeFirst 17 = .ok (.iconst 0, 1) := by decide +kernel
theorem dX1_wakeFirst_18 : decode cX1_wakeFirst 18 = .ok (.putfield 73, 3) := by decide +kernel
theorem dX1_wakeFirst_21 : decode cX1_wakeFirst 21 = .ok (.aload_n 0, 1) := by decide +kernel
theorem dX1_wakeFirst_22 : decode cX1_wakeFirst 22 = .ok (.getfield 38, 3) := by decide +kernel
theorem dX1_wakeFirst_25 : decode cX1_wakeFirst 25 = .ok (.aload_n 2, 1) := by decide +kernel
theorem dX1_wakeFirst_26 : decode cX1_wakeFirst 26 = .ok (.getfield 103, 3) := by decide +kernel
theorem dX1_wakeFirst_29 : decode cX1_wakeFirst 29 = .ok (.invokevirtual 106, 3) := by decide +kernel
theorem dX1_wakeFirst_32 : decode cX1_wakeFirst 32 = .ok (.return_, 1) := by decide +kernel
theorem dX1_wakeSleepers_0 : decode cX1_wakeSleepers 0 = .ok (.iconst 0, 1) := by decide +kernel
theorem dX1_wakeSleepers_1 : decode cX1_wakeSleepers 1 = .ok (.istore_n 1, 1) := by decide +kernel
theorem dX1_wakeSleepers_2 : decode cX1_wakeSleepers 2 = .ok (.iload_n 1, 1) := by decide +kernel
theorem dX1_wakeSleepers_3 : decode cX1_wakeSleepers 3 = .ok (.aload_n 0, 1) := by decide +kernel
theorem dX1_wakeSleepers_4 : decode cX1_wakeSleepers 4 = .ok (.getfield 46, 3) := by decide +kernel
theorem dX1_wakeSleepers_7 : decode cX1_wakeSleepers 7 = .ok (.if_icmp .ge 39, 3) := by decide +kernel
theorem dX1_wakeSleepers_10 : decode cX1_wakeSleepers 10 = .ok (.aload_n 0, 1) := by decide +kernel
theorem dX1_wakeSleepers_11 : decode cX1_wakeSleepers 11 = .ok (.iload_n 1, 1) := by decide +kernel
theorem dX1_wakeSleepers_12 : decode cX1_wakeSleepers 12 = .ok (.invokevirtual 66, 3) := by decide +kernel
theorem dX1_wakeSleepers_15 : decode cX1_wakeSleepers 15 = .ok (.astore_n 2, 1) := by decide +kernel
theorem dX1_wakeSleepers_16 : decode cX1_wakeSleepers 16 = .ok (.aload_n 2, 1) := by decide +kernel
theorem dX1_wakeSleepers_17 : decode cX1_wakeSleepers 17 = .ok (.getfield 73, 3) := by decide +kernel
theorem dX1_wakeSleepers_20 : decode cX1_wakeSleepers 20 = .ok (.iconst 3, 1) := by decide +kernel
theorem dX1_wakeSleepers_21 : decode cX1_wakeSleepers 21 = .ok (.if_icmp .ne 19, 3) := by decide +kernel
theorem dX1_wakeSleepers_24 : decode cX1_wakeSleepers 24 = .ok (.aload_n 2, 1) := by decide +kernel
theorem dX1_wakeSleepers_25 : decode cX1_wakeSleepers 25 = .ok (.getfield 109, 3) := by decide +kernel
theorem dX1_wakeSleepers_28 : decode cX1_wakeSleepers 28 = .ok (.aload_n 0, 1) := by decide +kernel
theorem dX1_wakeSleepers_29 : decode cX1_wakeSleepers 29 = .ok (.getfield 49, 3) := by decide +kernel
theorem dX1_wakeSleepers_32 : decode cX1_wakeSleepers 32 = .ok (.if_icmp .ne 8, 3) := by decide +kernel
theorem dX1_wakeSleepers_35 : decode cX1_wakeSleepers 35 = .ok (.aload_n 0, 1) := by decide +kernel
theorem dX1_wakeSleepers_36 : decode cX1_wakeSleepers 36 = .ok (.aload_n 2, 1) := by decide +kernel
theorem dX1_wakeSleepers_37 : decode cX1_wakeSleepers 37 = .ok (.invokevirtual 112, 3) := by decide +kernel
theorem dX1_wakeSleepers_40 : decode cX1_wakeSleepers 40 = .ok (.iinc 1 1, 3) := by decide +kernel
theorem dX1_wakeSleepers_43 : decode cX1_wakeSleepers 43 = .ok (.goto (-41), 3) := by decide +kernel
theorem dX1_wakeSleepers_46 : decode cX1_wakeSleepers 46 = .ok (.return_, 1) := by decide +kernel
theorem dX1_doStep_0 : decode cX1_doStep 0 = .ok (.aload_n 1, 1) := by decide +kernel
theorem dX1_doStep_1 : decode cX1_doStep 1 = .ok (.aload_n 1, 1) := by decide +kernel
theorem dX1_doStep_2 : decode cX1_doStep 2 = .ok (.getfield 115, 3) := by decide +kernel
theorem dX1_doStep_5 : decode cX1_doStep 5 = .ok (.invokevirtual 118, 3) := by decide +kernel
theorem dX1_doStep_8 : decode cX1_doStep 8 = .ok (.astore_n 2, 1) := by decide +kernel
theorem dX1_doStep_9 : decode cX1_doStep 9 = .ok (.aload_n 2, 1) := by decide +kernel
theorem dX1_doStep_10 : decode cX1_doStep 10 = .ok (.getfield 122, 3) := by decide +kernel
theorem dX1_doStep_13 : decode cX1_doStep 13 = .ok (.tableswitch 132 0 6 #[43, 75, 87, 132, 112, 124, 59], 43) := by decide +kernel
theorem dX1_doStep_56 : decode cX1_doStep 56 = .ok (.aload_n 0, 1) := by decide +kernel
theorem dX1_doStep_57 : decode cX1_doStep 57 = .ok (.aload_n 1, 1) := by decide +kernel
theorem dX1_doStep_58 : decode cX1_doStep 58 = .ok (.aload_n 2, 1) := by decide +kernel
theorem dX1_doStep_59 : decode cX1_doStep 59 = .ok (.getfield 127, 3) := by decide +kernel
theorem dX1_doStep_62 : decode cX1_doStep 62 = .ok (.aload_n 2, 1) := by decide +kernel
theorem dX1_doStep_63 : decode cX1_doStep 63 = .ok (.getfield 130, 3) := by decide +kernel
theorem dX1_doStep_66 : decode cX1_doStep 66 = .ok (.invokevirtual 133, 3) := by decide +kernel
theorem dX1_doStep_69 : decode cX1_doStep 69 = .ok (.goto 82, 3) := by decide +kernel
theorem dX1_doStep_72 : decode cX1_doStep 72 = .ok (.aload_n 0, 1) := by decide +kernel
theorem dX1_doStep_73 : decode cX1_doStep 73 = .ok (.aload_n 1, 1) := by decide +kernel
theorem dX1_doStep_74 : decode cX1_doStep 74 = .ok (.aload_n 2, 1) := by decide +kernel
theorem dX1_doStep_75 : decode cX1_doStep 75 = .ok (.getfield 127, 3) := by decide +kernel
theorem dX1_doStep_78 : decode cX1_doStep 78 = .ok (.aload_n 1, 1) := by decide +kernel
theorem dX1_doStep_79 : decode cX1_doStep 79 = .ok (.getfield 137, 3) := by decide +kernel
theorem dX1_doStep_82 : decode cX1_doStep 82 = .ok (.invokevirtual 133, 3) := by decide +kernel
theorem dX1_doStep_85 : decode cX1_doStep 85 = .ok (.goto 66, 3) := by decide +kernel
theorem dX1_doStep_88 : decode cX1_doStep 88 = .ok (.aload_n 0, 1) := by decide +kernel
theorem dX1_doStep_89 : decode cX1_doStep 89 = .ok (.aload_n 1, 1) := by decide +kernel
theorem dX1_doStep_90 : decode cX1_doStep 90 = .ok (.aload_n 2, 1) := by decide +kernel
theorem dX1_doStep_91 : decode cX1_doStep 91 = .ok (.getfield 127, 3) := by decide +kernel
theorem dX1_doStep_94 : decode cX1_doStep 94 = .ok (.invokevirtual 140, 3) := by decide +kernel
theorem dX1_doStep_97 : decode cX1_doStep 97 = .ok (.goto 54, 3) := by decide +kernel
theorem dX1_doStep_100 : decode cX1_doStep 100 = .ok (.aload_n 1, 1) := by decide +kernel
theorem dX1_doStep_101 : decode cX1_doStep 101 = .ok (.aload_n 0, 1) := by decide +kernel
theorem dX1_doStep_102 : decode cX1_doStep 102 = .ok (.getfield 49, 3) := by decide +kernel
theorem dX1_doStep_105 : decode cX1_doStep 105 = .ok (.aload_n 2, 1) := by decide +kernel
theorem dX1_doStep_106 : decode cX1_doStep 106 = .ok (.getfield 127, 3) := by decide +kernel
theorem dX1_doStep_109 : decode cX1_doStep 109 = .ok (.iadd, 1) := by decide +kernel
theorem dX1_doStep_110 : decode cX1_doStep 110 = .ok (.putfield 109, 3) := by decide +kernel
theorem dX1_doStep_113 : decode cX1_doStep 113 = .ok (.aload_n 1, 1) := by decide +kernel
theorem dX1_doStep_114 : decode cX1_doStep 114 = .ok (.iconst 3, 1) := by decide +kernel
theorem dX1_doStep_115 : decode cX1_doStep 115 = .ok (.putfield 73, 3) := by decide +kernel
theorem dX1_doStep_118 : decode cX1_doStep 118 = .ok (.aload_n 1, 1) := by decide +kernel
theorem dX1_doStep_119 : decode cX1_doStep 119 = .ok (.invokevirtual 144, 3) := by decide +kernel
theorem dX1_doStep_122 : decode cX1_doStep 122 = .ok (.goto 29, 3) := by decide +kernel
theorem dX1_doStep_125 : decode cX1_doStep 125 = .ok (.aload_n 0, 1) := by decide +kernel
theorem dX1_doStep_126 : decode cX1_doStep 126 = .ok (.aload_n 1, 1) := by decide +kernel
theorem dX1_doStep_127 : decode cX1_doStep 127 = .ok (.aload_n 2, 1) := by decide +kernel
theorem dX1_doStep_128 : decode cX1_doStep 128 = .ok (.getfield 127, 3) := by decide +kernel
theorem dX1_doStep_131 : decode cX1_doStep 131 = .ok (.invokevirtual 147, 3) := by decide +kernel
theorem dX1_doStep_134 : decode cX1_doStep 134 = .ok (.goto 17, 3) := by decide +kernel
theorem dX1_doStep_137 : decode cX1_doStep 137 = .ok (.aload_n 1, 1) := by decide +kernel
theorem dX1_doStep_138 : decode cX1_doStep 138 = .ok (.aload_n 2, 1) := by decide +kernel
theorem dX1_doStep_139 : decode cX1_doStep 139 = .ok (.invokevirtual 150, 3) := by decide +kernel
theorem dX1_doStep_142 : decode cX1_doStep 142 = .ok (.goto 9, 3) := by decide +kernel
theorem dX1_doStep_145 : decode cX1_doStep 145 = .ok (.aload_n 1, 1) := by decide +kernel
theorem dX1_doStep_146 : decode cX1_doStep 146 = .ok (.invokevirtual 144, 3) := by decide +kernel
theorem dX1_doStep_149 : decode cX1_doStep 149 = .ok (.iconst 0, 1) := by decide +kernel
theorem dX1_doStep_150 : decode cX1_doStep 150 = .ok (.ireturn, 1) := by decide +kernel
theorem dX1_doStep_151 : decode cX1_doStep 151 = .ok (.aload_n 1, 1) := by decide +kernel
theorem dX1_doStep_152 : decode cX1_doStep 152 = .ok (.getfield 73, 3) := by decide +kernel
theorem dX1_doStep_155 : decode cX1_doStep 155 = .ok (.ifCond .ne 7, 3) := by decide +kernel
theorem dX1_doStep_158 : decode cX1_doStep 158 = .ok (.iconst 1, 1) := by decide +kernel
theorem dX1_doStep_159 : decode cX1_doStep 159 = .ok (.goto 4, 3) := by decide +kernel
theorem dX1_doStep_162 : decode cX1_doStep 162 = .ok (.iconst 0, 1) := by decide +kernel
theorem dX1_doStep_163 : decode cX1_doStep 163 = .ok (.ireturn, 1) := by decide +kernel
theorem dX1_send_0 : decode cX1_send 0 = .ok (.aload_n 0, 1) := by decide +kernel
theorem dX1_send_1 : decode cX1_send 1 = .ok (.iload_n 2, 1) := by decide +kernel
theorem dX1_send_2 : decode cX1_send 2 = .ok (.invokevirtual 59, 3) := by decide +kernel
theorem dX1_send_5 : decode cX1_send 5 = .ok (.astore 4, 2) := by decide +kernel
theorem dX1_send_7 : decode cX1_send 7 = .ok (.aload 4, 2) := by decide +kernel
theorem dX1_send_9 : decode cX1_send 9 = .ok (.invokevirtual 154, 3) := by decide +kernel
theorem dX1_send_12 : decode cX1_send 12 = .ok (.ifCond .eq 28, 3) := by decide +kernel
theorem dX1_send_15 : decode cX1_send 15 = .ok (.aload 4, 2) := by decide +kernel
theorem dX1_send_17 : decode cX1_send 17 = .ok (.getfield 157, 3) := by decide +kernel
theorem dX1_send_20 : decode cX1_send 20 = .ok (.iload_n 3, 1) := by decide +kernel
theorem dX1_send_21 : decode cX1_send 21 = .ok (.invokevirtual 106, 3) := by decide +kernel
theorem dX1_send_24 : decode cX1_send 24 = .ok (.aload_n 0, 1) := by decide +kernel
theorem dX1_send_25 : decode cX1_send 25 = .ok (.aload 4, 2) := by decide +kernel
theorem dX1_send_27 : decode cX1_send 27 = .ok (.getfield 160, 3) := by decide +kernel
theorem dX1_send_30 : decode cX1_send 30 = .ok (.invokevirtual 163, 3) := by decide +kernel
theorem dX1_send_33 : decode cX1_send 33 = .ok (.aload_n 1, 1) := by decide +kernel
theorem dX1_send_34 : decode cX1_send 34 = .ok (.invokevirtual 144, 3) := by decide +kernel
theorem dX1_send_37 : decode cX1_send 37 = .ok (.goto 20, 3) := by decide +kernel
theorem dX1_send_40 : decode cX1_send 40 = .ok (.aload_n 1, 1) := by decide +kernel
theorem dX1_send_41 : decode cX1_send 41 = .ok (.iconst 1, 1) := by decide +kernel
theorem dX1_send_42 : decode cX1_send 42 = .ok (.putfield 73, 3) := by decide +kernel
theorem dX1_send_45 : decode cX1_send 45 = .ok (.aload 4, 2) := by decide +kernel
theorem dX1_send_47 : decode cX1_send 47 = .ok (.getfield 166, 3) := by decide +kernel
theorem dX1_send_50 : decode cX1_send 50 = .ok (.aload_n 1, 1) := by decide +kernel
theorem dX1_send_51 : decode cX1_send 51 = .ok (.getfield 103, 3) := by decide +kernel
theorem dX1_send_54 : decode cX1_send 54 = .ok (.invokevirtual 106, 3) := by decide +kernel
theorem dX1_send_57 : decode cX1_send 57 = .ok (.return_, 1) := by decide +kernel
theorem dX1_take_0 : decode cX1_take 0 = .ok (.aload_n 0, 1) := by decide +kernel
theorem dX1_take_1 : decode cX1_take 1 = .ok (.iload_n 2, 1) := by decide +kernel
theorem dX1_take_2 : decode cX1_take 2 = .ok (.invokevirtual 59, 3) := by decide +kernel
theorem dX1_take_5 : decode cX1_take 5 = .ok (.astore_n 3, 1) := by decide +kernel
theorem dX1_take_6 : decode cX1_take 6 = .ok (.aload_n 3, 1) := by decide +kernel
theorem dX1_take_7 : decode cX1_take 7 = .ok (.getfield 157, 3) := by decide +kernel
theorem dX1_take_10 : decode cX1_take 10 = .ok (.getfield 83, 3) := by decide +kernel
theorem dX1_take_13 : decode cX1_take 13 = .ok (.ifCond .le 34, 3) := by decide +kernel
theorem dX1_take_16 : decode cX1_take 16 = .ok (.aload_n 1, 1) := by decide +kernel
theorem dX1_take_17 : decode cX1_take 17 = .ok (.dup, 1) := by decide +kernel
theorem dX1_take_18 : decode cX1_take 18 = .ok (.getfield 137, 3) := by decide +kernel
theorem dX1_take_21 : decode cX1_take 21 = .ok (.aload_n 3, 1) := by decide +kernel
theorem dX1_take_22 : decode cX1_take 22 = .ok (.getfield 157, 3) := by decide +kernel
theorem dX1_take_25 : decode cX1_take 25 = .ok (.invokevirtual 86, 3) := by decide +kernel
theorem dX1_take_28 : decode cX1_take 28 = .ok (.iadd, 1) := by decide +kernel
theorem dX1_take_29 : decode cX1_take 29 = .ok (.putfield 137, 3) := by decide +kernel
theorem dX1_take_32 : decode cX1_take 32 = .ok (.aload_n 0, 1) := by decide +kernel
theorem dX1_take_33 : decode cX1_take 33 = .ok (.aload_n 3, 1) := by decide +kernel
theorem dX1_take_34 : decode cX1_take 34 = .ok (.getfield 166, 3) := by decide +kernel
theorem dX1_take_37 : decode cX1_take 37 = .ok (.invokevirtual 163, 3) := by decide +kernel
theorem dX1_take_40 : decode cX1_take 40 = .ok (.aload_n 1, 1) := by decide +kernel
theorem dX1_take_41 : decode cX1_take 41 = .ok (.invokevirtual 144, 3) := by decide +kernel
theorem dX1_take_44 : decode cX1_take 44 = .ok (.goto 19, 3) := by decide +kernel
theorem dX1_take_47 : decode cX1_take 47 = .ok (.aload_n 1, 1) := by decide +kernel
theorem dX1_take_48 : decode cX1_take 48 = .ok (.iconst 2, 1) := by decide +kernel
theorem dX1_take_49 : decode cX1_take 49 = .ok (.putfield 73, 3) := by decide +kernel
theorem dX1_take_52 : decode cX1_take 52 = .ok (.aload_n 3, 1) := by decide +kernel
theorem dX1_take_53 : decode cX1_take 53 = .ok (.getfield 160, 3) := by decide +kernel
theorem dX1_take_56 : decode cX1_take 56 = .ok (.aload_n 1, 1) := by decide +kernel
theorem dX1_take_57 : decode cX1_take 57 = .ok (.getfield 103, 3) := by decide +kernel
theorem dX1_take_60 : decode cX1_take 60 = .ok (.invokevirtual 106, 3) := by decide +kernel
theorem dX1_take_63 : decode cX1_take 63 = .ok (.return_, 1) := by decide +kernel
theorem dX1_waitFor_0 : decode cX1_waitFor 0 = .ok (.aload_n 0, 1) := by decide +kernel
theorem dX1_waitFor_1 : decode cX1_waitFor 1 = .ok (.iload_n 2, 1) := by decide +kernel
theorem dX1_waitFor_2 : decode cX1_waitFor 2 = .ok (.invokevirtual 66, 3) := by decide +kernel
theorem dX1_waitFor_5 : decode cX1_waitFor 5 = .ok (.getfield 73, 3) := by decide +kernel
theorem dX1_waitFor_8 : decode cX1_waitFor 8 = .ok (.iconst 5, 1) := by decide +kernel
theorem dX1_waitFor_9 : decode cX1_waitFor 9 = .ok (.if_icmp .ne 10, 3) := by decide +kernel
theorem dX1_waitFor_12 : decode cX1_waitFor 12 = .ok (.aload_n 1, 1) := by decide +kernel
theorem dX1_waitFor_13 : decode cX1_waitFor 13 = .ok (.invokevirtual 144, 3) := by decide +kernel
theorem dX1_waitFor_16 : decode cX1_waitFor 16 = .ok (.goto 8, 3) := by decide +kernel
theorem dX1_waitFor_19 : decode cX1_waitFor 19 = .ok (.aload_n 1, 1) := by decide +kernel
theorem dX1_waitFor_20 : decode cX1_waitFor 20 = .ok (.iconst 4, 1) := by decide +kernel
theorem dX1_waitFor_21 : decode cX1_waitFor 21 = .ok (.putfield 73, 3) := by decide +kernel
theorem dX1_waitFor_24 : decode cX1_waitFor 24 = .ok (.return_, 1) := by decide +kernel
theorem dX1_endTurn_0 : decode cX1_endTurn 0 = .ok (.aload_n 1, 1) := by decide +kernel
theorem dX1_endTurn_1 : decode cX1_endTurn 1 = .ok (.getfield 73, 3) := by decide +kernel
theorem dX1_endTurn_4 : decode cX1_endTurn 4 = .ok (.ifCond .eq 4, 3) := by decide +kernel
theorem dX1_endTurn_7 : decode cX1_endTurn 7 = .ok (.return_, 1) := by decide +kernel
theorem dX1_endTurn_8 : decode cX1_endTurn 8 = .ok (.aload_n 1, 1) := by decide +kernel
theorem dX1_endTurn_9 : decode cX1_endTurn 9 = .ok (.invokevirtual 92, 3) := by decide +kernel
theorem dX1_endTurn_12 : decode cX1_endTurn 12 = .ok (.ifCond .eq 15, 3) := by decide +kernel
theorem dX1_endTurn_15 : decode cX1_endTurn 15 = .ok (.aload_n 0, 1) := by decide +kernel
theorem dX1_endTurn_16 : decode cX1_endTurn 16 = .ok (.getfield 38, 3) := by decide +kernel
theorem dX1_endTurn_19 : decode cX1_endTurn 19 = .ok (.aload_n 1, 1) := by decide +kernel
theorem dX1_endTurn_20 : decode cX1_endTurn 20 = .ok (.getfield 103, 3) := by decide +kernel
theorem dX1_endTurn_23 : decode cX1_endTurn 23 = .ok (.invokevirtual 106, 3) := by decide +kernel
theorem dX1_endTurn_26 : decode cX1_endTurn 26 = .ok (.return_, 1) := by decide +kernel
theorem dX1_endTurn_27 : decode cX1_endTurn 27 = .ok (.aload_n 1, 1) := by decide +kernel
theorem dX1_endTurn_28 : decode cX1_endTurn 28 = .ok (.iconst 5, 1) := by decide +kernel
theorem dX1_endTurn_29 : decode cX1_endTurn 29 = .ok (.putfield 73, 3) := by decide +kernel
theorem dX1_endTurn_32 : decode cX1_endTurn 32 = .ok (.iconst 0, 1) := by decide +kernel
theorem dX1_endTurn_33 : decode cX1_endTurn 33 = .ok (.istore_n 2, 1) := by decide +kernel
theorem dX1_endTurn_34 : decode cX1_endTurn 34 = .ok (.iload_n 2, 1) := by decide +kernel
theorem dX1_endTurn_35 : decode cX1_endTurn 35 = .ok (.aload_n 0, 1) := by decide +kernel
theorem dX1_endTurn_36 : decode cX1_endTurn 36 = .ok (.getfield 46, 3) := by decide +kernel
theorem dX1_endTurn_39 : decode cX1_endTurn 39 = .ok (.if_icmp .ge 46, 3) := by decide +kernel
theorem dX1_endTurn_42 : decode cX1_endTurn 42 = .ok (.aload_n 0, 1) := by decide +kernel
theorem dX1_endTurn_43 : decode cX1_endTurn 43 = .ok (.iload_n 2, 1) := by decide +kernel
theorem dX1_endTurn_44 : decode cX1_endTurn 44 = .ok (.invokevirtual 66, 3) := by decide +kernel
theorem dX1_endTurn_47 : decode cX1_endTurn 47 = .ok (.astore_n 3, 1) := by decide +kernel
theorem dX1_endTurn_48 : decode cX1_endTurn 48 = .ok (.aload_n 3, 1) := by decide +kernel
theorem dX1_endTurn_49 : decode cX1_endTurn 49 = .ok (.getfield 73, 3) := by decide +kernel
theorem dX1_endTurn_52 : decode cX1_endTurn 52 = .ok (.iconst 4, 1) := by decide +kernel
theorem dX1_endTurn_53 : decode cX1_endTurn 53 = .ok (.if_icmp .ne 26, 3) := by decide +kernel
theorem dX1_endTurn_56 : decode cX1_endTurn 56 = .ok (.aload_n 3, 1) := by decide +kernel
theorem dX1_endTurn_57 : decode cX1_endTurn 57 = .ok (.aload_n 3, 1) := by decide +kernel
theorem dX1_endTurn_58 : decode cX1_endTurn 58 = .ok (.getfield 115, 3) := by decide +kernel
theorem dX1_endTurn_61 : decode cX1_endTurn 61 = .ok (.invokevirtual 118, 3) := by decide +kernel
theorem dX1_endTurn_64 : decode cX1_endTurn 64 = .ok (.getfield 127, 3) := by decide +kernel
theorem dX1_endTurn_67 : decode cX1_endTurn 67 = .ok (.aload_n 1, 1) := by decide +kernel
theorem dX1_endTurn_68 : decode cX1_endTurn 68 = .ok (.getfield 103, 3) := by decide +kernel
theorem dX1_endTurn_71 : decode cX1_endTurn 71 = .ok (.if_icmp .ne 8, 3) := by decide +kernel
theorem dX1_endTurn_74 : decode cX1_endTurn 74 = .ok (.aload_n 0, 1) := by decide +kernel
theorem dX1_endTurn_75 : decode cX1_endTurn 75 = .ok (.aload_n 3, 1) := by decide +kernel
theorem dX1_endTurn_76 : decode cX1_endTurn 76 = .ok (.invokevirtual 112, 3) := by decide +kernel
theorem dX1_endTurn_79 : decode cX1_endTurn 79 = .ok (.iinc 2 1, 3) := by decide +kernel
theorem dX1_endTurn_82 : decode cX1_endTurn 82 = .ok (.goto (-48), 3) := by decide +kernel
theorem dX1_endTurn_85 : decode cX1_endTurn 85 = .ok (.return_, 1) := by decide +kernel
theorem dX2_init_0 : decode cX2_init 0 = .ok (.aload_n 0, 1) := by decide +kernel
theorem dX2_init_1 : decode cX2_init 1 = .ok (.invokespecial 3, 3) := by decide +kernel
theorem dX2_init_4 : decode cX2_init 4 = .ok (.aload_n 0, 1) := by decide +kernel
theorem dX2_init_5 : decode cX2_init 5 = .ok (.iconst 5, 1) := by decide +kernel
theorem dX2_init_6 : decode cX2_init 6 = .ok (.putfield 9, 3) := by decide +kernel
theorem dX2_init_9 : decode cX2_init 9 = .ok (.aload_n 0, 1) := by decide +kernel
theorem dX2_init_10 : decode cX2_init 10 = .ok (.bipush 12, 2) := by decide +kernel
theorem dX2_init_12 : decode cX2_init 12 = .ok (.anewarray 15, 3) := by decide +kernel
theorem dX2_init_15 : decode cX2_init 15 = .ok (.putfield 17, 3) := by decide +kernel
theorem dX2_init_18 : decode cX2_init 18 = .ok (.aload_n 0, 1) := by decide +kernel
theorem dX2_init_19 : decode cX2_init 19 = .ok (.new 15, 3) := by decide +kernel
theorem dX2_init_22 : decode cX2_init 22 = .ok (.dup, 1) := by decide +kernel
theorem dX2_init_23 : decode cX2_init 23 = .ok (.invokespecial 21, 3) := by decide +kernel
theorem dX2_init_26 : decode cX2_init 26 = .ok (.putfield 22, 3) := by decide +kernel
theorem dX2_init_29 : decode cX2_init 29 = .ok (.aload_n 0, 1) := by decide +kernel
theorem dX2_init_30 : decode cX2_init 30 = .ok (.iload_n 1, 1) := by decide +kernel
theorem dX2_init_31 : decode cX2_init 31 = .ok (.putfield 26, 3) := by decide +kernel
theorem dX2_init_34 : decode cX2_init 34 = .ok (.iconst 0, 1) := by decide +kernel
theorem dX2_init_35 : decode cX2_init 35 = .ok (.istore_n 2, 1) := by decide +kernel
theorem dX2_init_36 : decode cX2_init 36 = .ok (.iload_n 2, 1) := by decide +kernel
theorem dX2_init_37 : decode cX2_init 37 = .ok (.aload_n 0, 1) := by decide +kernel
theorem dX2_init_38 : decode cX2_init 38 = .ok (.getfield 17, 3) := by decide +kernel
theorem dX2_init_41 : decode cX2_init 41 = .ok (.arraylength, 1) := by decide +kernel
theorem dX2_init_42 : decode cX2_init 42 = .ok (.if_icmp .ge 22, 3) := by decide +kernel
theorem dX2_init_45 : decode cX2_init 45 = .ok (.aload_n 0, 1) := by decide +kernel
theorem dX2_init_46 : decode cX2_init 46 = .ok (.getfield 17, 3) := by decide +kernel
theorem dX2_init_49 : decode cX2_init 49 = .ok (.iload_n 2, 1) := by decide +kernel
theorem dX2_init_50 : decode cX2_init 50 = .ok (.new 15, 3) := by decide +kernel
theorem dX2_init_53 : decode cX2_init 53 = .ok (.dup, 1) := by decide +kernel
theorem dX2_init_54 : decode cX2_init 54 = .ok (.invokespecial 21, 3) := by decide +kernel
theorem dX2_init_57 : decode cX2_init 57 = .ok (.aastore, 1) := by decide +kernel
theorem dX2_init_58 : decode cX2_init 58 = .ok (.iinc 2 1, 3) := by decide +kernel
theorem dX2_init_61 : decode cX2_init 61 = .ok (.goto (-25), 3) := by decide +kernel
theorem dX2_init_64 : decode cX2_init 64 = .ok (.return_, 1) := by decide +kernel
theorem dX2_stepAt_0 : decode cX2_stepAt 0 = .ok (.iload_n 1, 1) := by decide +kernel
theorem dX2_stepAt_1 : decode cX2_stepAt 1 = .ok (.ifCond .lt 12, 3) := by decide +kernel
theorem dX2_stepAt_4 : decode cX2_stepAt 4 = .ok (.iload_n 1, 1) := by decide +kernel
theorem dX2_stepAt_5 : decode cX2_stepAt 5 = .ok (.aload_n 0, 1) := by decide +kernel
theorem dX2_stepAt_6 : decode cX2_stepAt 6 = .ok (.getfield 17, 3) := by decide +kernel
theorem dX2_stepAt_9 : decode cX2_stepAt 9 = .ok (.arraylength, 1) := by decide +kernel
theorem dX2_stepAt_10 : decode cX2_stepAt 10 = .ok (.if_icmp .lt 8, 3) := by decide +kernel
theorem dX2_stepAt_13 : decode cX2_stepAt 13 = .ok (.aload_n 0, 1) := by decide +kernel
theorem dX2_stepAt_14 : decode cX2_stepAt 14 = .ok (.getfield 22, 3) := by decide +kernel
theorem dX2_stepAt_17 : decode cX2_stepAt 17 = .ok (.areturn, 1) := by decide +kernel
theorem dX2_stepAt_18 : decode cX2_stepAt 18 = .ok (.aload_n 0, 1) := by decide +kernel
theorem dX2_stepAt_19 : decode cX2_stepAt 19 = .ok (.getfield 17, 3) := by decide +kernel
theorem dX2_stepAt_22 : decode cX2_stepAt 22 = .ok (.iload_n 1, 1) := by decide +kernel
theorem dX2_stepAt_23 : decode cX2_stepAt 23 = .ok (.aaload, 1) := by decide +kernel
theorem dX2_stepAt_24 : decode cX2_stepAt 24 = .ok (.astore_n 2, 1) := by decide +kernel
theorem dX2_stepAt_25 : decode cX2_stepAt 25 = .ok (.aload_n 2, 1) := by decide +kernel
theorem dX2_stepAt_26 : decode cX2_stepAt 26 = .ok (.ifnonnull 10, 3) := by decide +kernel
theorem dX2_stepAt_29 : decode cX2_stepAt 29 = .ok (.aload_n 0, 1) := by decide +kernel
theorem dX2_stepAt_30 : decode cX2_stepAt 30 = .ok (.getfield 22, 3) := by decide +kernel
theorem dX2_stepAt_33 : decode cX2_stepAt 33 = .ok (.goto 4, 3) := by decide +kernel
theorem dX2_stepAt_36 : decode cX2_stepAt 36 = .ok (.aload_n 2, 1) := by decide +kernel
theorem dX2_stepAt_37 : decode cX2_stepAt 37 = .ok (.areturn, 1) := by decide +kernel
theorem dX2_hasStepsLeft_0 : decode cX2_hasStepsLeft 0 = .ok (.aload_n 0, 1) := by decide +kernel
theorem dX2_hasStepsLeft_1 : decode cX2_hasStepsLeft 1 = .ok (.getfield 29, 3) := by decide +kernel
theorem dX2_hasStepsLeft_4 : decode cX2_hasStepsLeft 4 = .ok (.aload_n 0, 1) := by decide +kernel
theorem dX2_hasStepsLeft_5 : decode cX2_hasStepsLeft 5 = .ok (.getfield 32, 3) := by decide +kernel
theorem dX2_hasStepsLeft_8 : decode cX2_hasStepsLeft 8 = .ok (.if_icmp .ge 7, 3) := by decide +kernel
theorem dX2_hasStepsLeft_11 : decode cX2_hasStepsLeft 11 = .ok (.iconst 1, 1) := by decide +kernel
theorem dX2_hasStepsLeft_12 : decode cX2_hasStepsLeft 12 = .ok (.goto 4, 3) := by decide +kernel
theorem dX2_hasStepsLeft_15 : decode cX2_hasStepsLeft 15 = .ok (.iconst 0, 1) := by decide +kernel
theorem dX2_hasStepsLeft_16 : decode cX2_hasStepsLeft 16 = .ok (.ireturn, 1) := by decide +kernel
theorem dX2_moveOn_0 : decode cX2_moveOn 0 = .ok (.aload_n 0, 1) := by decide +kernel
theorem dX2_moveOn_1 : decode cX2_moveOn 1 = .ok (.dup, 1) := by decide +kernel
theorem dX2_moveOn_2 : decode cX2_moveOn 2 = .ok (.getfield 29, 3) := by decide +kernel
theorem dX2_moveOn_5 : decode cX2_moveOn 5 = .ok (.iconst 1, 1) := by decide +kernel
theorem dX2_moveOn_6 : decode cX2_moveOn 6 = .ok (.iadd, 1) := by decide +kernel
theorem dX2_moveOn_7 : decode cX2_moveOn 7 = .ok (.putfield 29, 3) := by decide +kernel
theorem dX2_moveOn_10 : decode cX2_moveOn 10 = .ok (.aload_n 0, 1) := by decide +kernel
theorem dX2_moveOn_11 : decode cX2_moveOn 11 = .ok (.dup, 1) := by decide +kernel
theorem dX2_moveOn_12 : decode cX2_moveOn 12 = .ok (.getfield 35, 3) := by decide +kernel
theorem dX2_moveOn_15 : decode cX2_moveOn 15 = .ok (.iconst 1, 1) := by decide +kernel
theorem dX2_moveOn_16 : decode cX2_moveOn 16 = .ok (.iadd, 1) := by decide +kernel
theorem dX2_moveOn_17 : decode cX2_moveOn 17 = .ok (.putfield 35, 3) := by decide +kernel
theorem dX2_moveOn_20 : decode cX2_moveOn 20 = .ok (.return_, 1) := by decide +kernel
theorem dX2_goBack_0 : decode cX2_goBack 0 = .ok (.aload_n 1, 1) := by decide +kernel
theorem dX2_goBack_1 : decode cX2_goBack 1 = .ok (.getfield 38, 3) := by decide +kernel
theorem dX2_goBack_4 : decode cX2_goBack 4 = .ok (.aload_n 1, 1) := by decide +kernel
theorem dX2_goBack_5 : decode cX2_goBack 5 = .ok (.getfield 41, 3) := by decide +kernel
theorem dX2_goBack_8 : decode cX2_goBack 8 = .ok (.if_icmp .ge 34, 3) := by decide +kernel
theorem dX2_goBack_11 : decode cX2_goBack 11 = .ok (.aload_n 1, 1) := by decide +kernel
theorem dX2_goBack_12 : decode cX2_goBack 12 = .ok (.dup, 1) := by decide +kernel
theorem dX2_goBack_13 : decode cX2_goBack 13 = .ok (.getfield 38, 3) := by decide +kernel
theorem dX2_goBack_16 : decode cX2_goBack 16 = .ok (.iconst 1, 1) := by decide +kernel
theorem dX2_goBack_17 : decode cX2_goBack 17 = .ok (.iadd, 1) := by decide +kernel
theorem dX2_goBack_18 : decode cX2_goBack 18 = .ok (.putfield 38, 3) := by decide +kernel
theorem dX2_goBack_21 : decode cX2_goBack 21 = .ok (.aload_n 0, 1) := by decide +kernel
theorem dX2_goBack_22 : decode cX2_goBack 22 = .ok (.aload_n 1, 1) := by decide +kernel
theorem dX2_goBack_23 : decode cX2_goBack 23 = .ok (.getfield 44, 3) := by decide +kernel
theorem dX2_goBack_26 : decode cX2_goBack 26 = .ok (.putfield 29, 3) := by decide +kernel
theorem dX2_goBack_29 : decode cX2_goBack 29 = .ok (.aload_n 0, 1) := by decide +kernel
theorem dX2_goBack_30 : decode cX2_goBack 30 = .ok (.dup, 1) := by decide +kernel
theorem dX2_goBack_31 : decode cX2_goBack 31 = .ok (.getfield 35, 3) := by decide +kernel
theorem dX2_goBack_34 : decode cX2_goBack 34 = .ok (.iconst 1, 1) := by decide +kernel
theorem dX2_goBack_35 : decode cX2_goBack 35 = .ok (.iadd, 1) := by decide +kernel
theorem dX2_goBack_36 : decode cX2_goBack 36 = .ok (.putfield 35, 3) := by decide +kernel
theorem dX2_goBack_39 : decode cX2_goBack 39 = .ok (.goto 12, 3) := by decide +kernel
theorem dX2_goBack_42 : decode cX2_goBack 42 = .ok (.aload_n 1, 1) := by decide +kernel
theorem dX2_goBack_43 : decode cX2_goBack 43 = .ok (.iconst 0, 1) := by decide +kernel
theorem dX2_goBack_44 : decode cX2_goBack 44 = .ok (.putfield 38, 3) := by decide +kernel
theorem dX2_goBack_47 : decode cX2_goBack 47 = .ok (.aload_n 0, 1) := by decide +kernel
theorem dX2_goBack_48 : decode cX2_goBack 48 = .ok (.invokevirtual 47, 3) := by decide +kernel
theorem dX2_goBack_51 : decode cX2_goBack 51 = .ok (.return_, 1) := by decide +kernel
theorem dX2_becomeLike_0 : decode cX2_becomeLike 0 = .ok (.aload_n 0, 1) := by decide +kernel
theorem dX2_becomeLike_1 : decode cX2_becomeLike 1 = .ok (.aload_n 1, 1) := by decide +kernel
theorem dX2_becomeLike_2 : decode cX2_becomeLike 2 = .ok (.getfield 9, 3) := by decide +kernel
theorem dX2_becomeLike_5 : decode cX2_becomeLike 5 = .ok (.putfield 9, 3) := by decide +kernel
theorem dX2_becomeLike_8 : decode cX2_becomeLike 8 = .ok (.aload_n 0, 1) := by decide +kernel
theorem dX2_becomeLike_9 : decode cX2_becomeLike 9 = .ok (.aload_n 1, 1) := by decide +kernel
theorem dX2_becomeLike_10 : decode cX2_becomeLike 10 = .ok (.getfield 29, 3) := by decide +kernel
theorem dX2_becomeLike_13 : decode cX2_becomeLike 13 = .ok (.putfield 29, 3) := by decide +kernel
theorem dX2_becomeLike_16 : decode cX2_becomeLike 16 = .ok (.aload_n 0, 1) := by decide +kernel
theorem dX2_becomeLike_17 : decode cX2_becomeLike 17 = .ok (.aload_n 1, 1) := by decide +kernel
theorem dX2_becomeLike_18 : decode cX2_becomeLike 18 = .ok (.getfield 50, 3) := by decide +kernel
theorem dX2_becomeLike_21 : decode cX2_becomeLike 21 = .ok (.putfield 50, 3) := by decide +kernel
theorem dX2_becomeLike_24 : decode cX2_becomeLike 24 = .ok (.aload_n 0, 1) := by decide +kernel
theorem dX2_becomeLike_25 : decode cX2_becomeLike 25 = .ok (.aload_n 1, 1) := by decide +kernel
theorem dX2_becomeLike_26 : decode cX2_becomeLike 26 = .ok (.getfield 35, 3) := by decide +kernel
theorem dX2_becomeLike_29 : decode cX2_becomeLike 29 = .ok (.putfield 35, 3) := by decide +kernel
theorem dX2_becomeLike_32 : decode cX2_becomeLike 32 = .ok (.aload_n 0, 1) := by decide +kernel
theorem dX2_becomeLike_33 : decode cX2_becomeLike 33 = .ok (.aload_n 1, 1) := by decide +kernel
theorem dX2_becomeLike_34 : decode cX2_becomeLike 34 = .ok (.getfield 53, 3) := by decide +kernel
theorem dX2_becomeLike_37 : decode cX2_becomeLike 37 = .ok (.putfield 53, 3) := by decide +kernel
theorem dX2_becomeLike_40 : decode cX2_becomeLike 40 = .ok (.aload_n 0, 1) := by decide +kernel
theorem dX2_becomeLike_41 : decode cX2_becomeLike 41 = .ok (.aload_n 1, 1) := by decide +kernel
theorem dX2_becomeLike_42 : decode cX2_becomeLike 42 = .ok (.getfield 56, 3) := by decide +kernel
theorem dX2_becomeLike_45 : decode cX2_becomeLike 45 = .ok (.putfield 56, 3) := by decide +kernel
theorem dX2_becomeLike_48 : decode cX2_becomeLike 48 = .ok (.aload_n 0, 1) := by decide +kernel
theorem dX2_becomeLike_49 : decode cX2_becomeLike 49 = .ok (.aload_n 1, 1) := by decide +kernel
theorem dX2_becomeLike_50 : decode cX2_becomeLike 50 = .ok (.getfield 32, 3) := by decide +kernel
theorem dX2_becomeLike_53 : decode cX2_becomeLike 53 = .ok (.putfield 32, 3) := by decide +kernel
theorem dX2_becomeLike_56 : decode cX2_becomeLike 56 = .ok (.iconst 0, 1) := by decide +kernel
theorem dX2_becomeLike_57 : decode cX2_becomeLike 57 = .ok (.istore_n 2, 1) := by decide +kernel
theorem dX2_becomeLike_58 : decode cX2_becomeLike 58 = .ok (.iload_n 2, 1) := by decide +kernel
theorem dX2_becomeLike_59 : decode cX2_becomeLike 59 = .ok (.aload_n 0, 1) := by decide +kernel
theorem dX2_becomeLike_60 : decode cX2_becomeLike 60 = .ok (.getfield 32, 3) := by decide +kernel
theorem dX2_becomeLike_63 : decode cX2_becomeLike 63 = .ok (.if_icmp .ge 22, 3) := by decide +kernel
theorem dX2_becomeLike_66 : decode cX2_becomeLike 66 = .ok (.aload_n 0, 1) := by decide +kernel
theorem dX2_becomeLike_67 : decode cX2_becomeLike 67 = .ok (.iload_n 2, 1) := by decide +kernel
theorem dX2_becomeLike_68 : decode cX2_becomeLike 68 = .ok (.invokevirtual 59, 3) := by decide +kernel
theorem dX2_becomeLike_71 : decode cX2_becomeLike 71 = .ok (.aload_n 1, 1) := by decide +kernel
theorem dX2_becomeLike_72 : decode cX2_becomeLike 72 = .ok (.iload_n 2, 1) := by decide +kernel
theorem dX2_becomeLike_73 : decode cX2_becomeLike 73 = .ok (.invokevirtual 59, 3) := by decide +kernel
theorem dX2_becomeLike_76 : decode cX2_becomeLike 76 = .ok (.invokevirtual 63, 3) := by decide +kernel
theorem dX2_becomeLike_79 : decode cX2_becomeLike 79 = .ok (.iinc 2 1, 3) := by decide +kernel
theorem dX2_becomeLike_82 : decode cX2_becomeLike 82 = .ok (.goto (-24), 3) := by decide +kernel
theorem dX2_becomeLike_85 : decode cX2_becomeLike 85 = .ok (.return_, 1) := by decide +kernel
theorem dX3_init_0 : decode cX3_init 0 = .ok (.aload_n 0, 1) := by decide +kernel
theorem dX3_init_1 : decode cX3_init 1 = .ok (.invokespecial 3, 3) := by decide +kernel
theorem dX3_init_4 : decode cX3_init 4 = .ok (.aload_n 0, 1) := by decide +kernel
theorem dX3_init_5 : decode cX3_init 5 = .ok (.bipush 8, 2) := by decide +kernel
theorem dX3_init_7 : decode cX3_init 7 = .ok (.newarray .int, 2) := by decide +kernel
theorem dX3_init_9 : decode cX3_init 9 = .ok (.putfield 9, 3) := by decide +kernel
theorem dX3_init_12 : decode cX3_init 12 = .ok (.return_, 1) := by decide +kernel
theorem dX3_look_0 : decode cX3_look 0 = .ok (.iload_n 1, 1) := by decide +kernel
theorem dX3_look_1 : decode cX3_look 1 = .ok (.ifCond .lt 29, 3) := by decide +kernel
theorem dX3_look_4 : decode cX3_look 4 = .ok (.iload_n 1, 1) := by decide +kernel
theorem dX3_look_5 : decode cX3_look 5 = .ok (.aload_n 0, 1) := by decide +kernel
theorem dX3_look_6 : decode cX3_look 6 = .ok (.getfield 15, 3) := by decide +kernel
theorem dX3_look_9 : decode cX3_look 9 = .ok (.if_icmp .ge 21, 3) := by decide +kernel
theorem dX3_look_12 : decode cX3_look 12 = .ok (.iload_n 1, 1) := by decide +kernel
theorem dX3_look_13 : decode cX3_look 13 = .ok (.aload_n 0, 1) := by decide +kernel
theorem dX3_look_14 : decode cX3_look 14 = .ok (.getfield 9, 3) := by decide +kernel
theorem dX3_look_17 : decode cX3_look 17 = .ok (.arraylength, 1) := by decide +kernel
theorem dX3_look_18 : decode cX3_look 18 = .ok (.if_icmp .ge 12, 3) := by decide +kernel
theorem dX3_look_21 : decode cX3_look 21 = .ok (.aload_n 0, 1) := by decide +kernel
theorem dX3_look_22 : decode cX3_look 22 = .ok (.getfield 9, 3) := by decide +kernel
theorem dX3_look_25 : decode cX3_look 25 = .ok (.iload_n 1, 1) := by decide +kernel
theorem dX3_look_26 : decode cX3_look 26 = .ok (.iaload, 1) := by decide +kernel
theorem dX3_look_27 : decode cX3_look 27 = .ok (.goto 4, 3) := by decide +kernel
theorem dX3_look_30 : decode cX3_look 30 = .ok (.iconst (-1), 1) := by decide +kernel
theorem dX3_look_31 : decode cX3_look 31 = .ok (.ireturn, 1) := by decide +kernel
theorem dX3_find_0 : decode cX3_find 0 = .ok (.iconst 0, 1) := by decide +kernel
theorem dX3_find_1 : decode cX3_find 1 = .ok (.istore_n 2, 1) := by decide +kernel
theorem dX3_find_2 : decode cX3_find 2 = .ok (.iload_n 2, 1) := by decide +kernel
theorem dX3_find_3 : decode cX3_find 3 = .ok (.aload_n 0, 1) := by decide +kernel
theorem dX3_find_4 : decode cX3_find 4 = .ok (.getfield 15, 3) := by decide +kernel
theorem dX3_find_7 : decode cX3_find 7 = .ok (.if_icmp .ge 30, 3) := by decide +kernel
theorem dX3_find_10 : decode cX3_find 10 = .ok (.iload_n 2, 1) := by decide +kernel
theorem dX3_find_11 : decode cX3_find 11 = .ok (.aload_n 0, 1) := by decide +kernel
theorem dX3_find_12 : decode cX3_find 12 = .ok (.getfield 9, 3) := by decide +kernel
theorem dX3_find_15 : decode cX3_find 15 = .ok (.arraylength, 1) := by decide +kernel
theorem dX3_find_16 : decode cX3_find 16 = .ok (.if_icmp .ge 21, 3) := by decide +kernel
theorem dX3_find_19 : decode cX3_find 19 = .ok (.aload_n 0, 1) := by decide +kernel
theorem dX3_find_20 : decode cX3_find 20 = .ok (.getfield 9, 3) := by decide +kernel
theorem dX3_find_23 : decode cX3_find 23 = .ok (.iload_n 2, 1) := by decide +kernel
theorem dX3_find_24 : decode cX3_find 24 = .ok (.iaload, 1) := by decide +kernel
theorem dX3_find_25 : decode cX3_find 25 = .ok (.iload_n 1, 1) := by decide +kernel
theorem dX3_find_26 : decode cX3_find 26 = .ok (.if_icmp .ne 5, 3) := by decide +kernel
theorem dX3_find_29 : decode cX3_find 29 = .ok (.iload_n 2, 1) := by decide +kernel
theorem dX3_find_30 : decode cX3_find 30 = .ok (.ireturn, 1) := by decide +kernel
theorem dX3_find_31 : decode cX3_find 31 = .ok (.iinc 2 1, 3) := by decide +kernel
theorem dX3_find_34 : decode cX3_find 34 = .ok (.goto (-32), 3) := by decide +kernel
theorem dX3_find_37 : decode cX3_find 37 = .ok (.iconst (-1), 1) := by decide +kernel
theorem dX3_find_38 : decode cX3_find 38 = .ok (.ireturn, 1) := by decide +kernel
theorem dX3_addLast_0 : decode cX3_addLast 0 = .ok (.aload_n 0, 1) := by decide +kernel
theorem dX3_addLast_1 : decode cX3_addLast 1 = .ok (.getfield 15, 3) := by decide +kernel
theorem dX3_addLast_4 : decode cX3_addLast 4 = .ok (.ifCond .lt 35, 3) := by decide +kernel
theorem dX3_addLast_7 : decode cX3_addLast 7 = .ok (.aload_n 0, 1) := by decide +kernel
theorem dX3_addLast_8 : decode cX3_addLast 8 = .ok (.getfield 15, 3) := by decide +kernel
theorem dX3_addLast_11 : decode cX3_addLast 11 = .ok (.aload_n 0, 1) := by decide +kernel
theorem dX3_addLast_12 : decode cX3_addLast 12 = .ok (.getfield 9, 3) := by decide +kernel
theorem dX3_addLast_15 : decode cX3_addLast 15 = .ok (.arraylength, 1) := by decide +kernel
theorem dX3_addLast_16 : decode cX3_addLast 16 = .ok (.if_icmp .ge 23, 3) := by decide +kernel
theorem dX3_addLast_19 : decode cX3_addLast 19 = .ok (.aload_n 0, 1) := by decide +kernel
theorem dX3_addLast_20 : decode cX3_addLast 20 = .ok (.getfield 9, 3) := by decide +kernel
theorem dX3_addLast_23 : decode cX3_addLast 23 = .ok (.aload_n 0, 1) := by decide +kernel
theorem dX3_addLast_24 : decode cX3_addLast 24 = .ok (.getfield 15, 3) := by decide +kernel
theorem dX3_addLast_27 : decode cX3_addLast 27 = .ok (.iload_n 1, 1) := by decide +kernel
theorem dX3_addLast_28 : decode cX3_addLast 28 = .ok (.iastore, 1) := by decide +kernel
theorem dX3_addLast_29 : decode cX3_addLast 29 = .ok (.aload_n 0, 1) := by decide +kernel
theorem dX3_addLast_30 : decode cX3_addLast 30 = .ok (.dup, 1) := by decide +kernel
theorem dX3_addLast_31 : decode cX3_addLast 31 = .ok (.getfield 15, 3) := by decide +kernel
theorem dX3_addLast_34 : decode cX3_addLast 34 = .ok (.iconst 1, 1) := by decide +kernel
theorem dX3_addLast_35 : decode cX3_addLast 35 = .ok (.iadd, 1) := by decide +kernel
theorem dX3_addLast_36 : decode cX3_addLast 36 = .ok (.putfield 15, 3) := by decide +kernel
theorem dX3_addLast_39 : decode cX3_addLast 39 = .ok (.return_, 1) := by decide +kernel
theorem dX3_takeFirst_0 : decode cX3_takeFirst 0 = .ok (.aload_n 0, 1) := by decide +kernel
theorem dX3_takeFirst_1 : decode cX3_takeFirst 1 = .ok (.getfield 15, 3) := by decide +kernel
theorem dX3_takeFirst_4 : decode cX3_takeFirst 4 = .ok (.ifCond .le 11, 3) := by decide +kernel
theorem dX3_takeFirst_7 : decode cX3_takeFirst 7 = .ok (.aload_n 0, 1) := by decide +kernel
theorem dX3_takeFirst_8 : decode cX3_takeFirst 8 = .ok (.getfield 9, 3) := by decide +kernel
theorem dX3_takeFirst_11 : decode cX3_takeFirst 11 = .ok (.arraylength, 1) := by decide +kernel
theorem dX3_takeFirst_12 : decode cX3_takeFirst 12 = .ok (.ifCond .ne 5, 3) := by decide +kernel
theorem dX3_takeFirst_15 : decode cX3_takeFirst 15 = .ok (.iconst (-1), 1) := by decide +kernel
theorem dX3_takeFirst_16 : decode cX3_takeFirst 16 = .ok (.ireturn, 1) := by decide +kernel
theorem dX3_takeFirst_17 : decode cX3_takeFirst 17 = .ok (.aload_n 0, 1) := by decide +kernel
theorem dX3_takeFirst_18 : decode cX3_takeFirst 18 = .ok (.getfield 9, 3) := by decide +kernel
theorem dX3_takeFirst_21 : decode cX3_takeFirst 21 = .ok (.iconst 0, 1) := by decide +kernel
theorem dX3_takeFirst_22 : decode cX3_takeFirst 22 = .ok (.iaload, 1) := by decide +kernel
theorem dX3_takeFirst_23 : decode cX3_takeFirst 23 = .ok (.istore_n 1, 1) := by decide +kernel
theorem dX3_takeFirst_24 : decode cX3_takeFirst 24 = .ok (.iconst 1, 1) := by decide +kernel
theorem dX3_takeFirst_25 : decode cX3_takeFirst 25 = .ok (.istore_n 2, 1) := by decide +kernel
theorem dX3_takeFirst_26 : decode cX3_takeFirst 26 = .ok (.iload_n 2, 1) := by decide +kernel
theorem dX3_takeFirst_27 : decode cX3_takeFirst 27 = .ok (.aload_n 0, 1) := by decide +kernel
theorem dX3_takeFirst_28 : decode cX3_takeFirst 28 = .ok (.getfield 15, 3) := by decide +kernel
theorem dX3_takeFirst_31 : decode cX3_takeFirst 31 = .ok (.if_icmp .ge 32, 3) := by decide +kernel
theorem dX3_takeFirst_34 : decode cX3_takeFirst 34 = .ok (.iload_n 2, 1) := by decide +kernel
theorem dX3_takeFirst_35 : decode cX3_takeFirst 35 = .ok (.aload_n 0, 1) := by decide +kernel
theorem dX3_takeFirst_36 : decode cX3_takeFirst 36 = .ok (.getfield 9, 3) := by decide +kernel
theorem dX3_takeFirst_39 : decode cX3_takeFirst 39 = .ok (.arraylength, 1) := by decide +kernel
theorem dX3_takeFirst_40 : decode cX3_takeFirst 40 = .ok (.if_icmp .ge 23, 3) := by decide +kernel
theorem dX3_takeFirst_43 : decode cX3_takeFirst 43 = .ok (.aload_n 0, 1) := by decide +kernel
theorem dX3_takeFirst_44 : decode cX3_takeFirst 44 = .ok (.getfield 9, 3) := by decide +kernel
theorem dX3_takeFirst_47 : decode cX3_takeFirst 47 = .ok (.iload_n 2, 1) := by decide +kernel
theorem dX3_takeFirst_48 : decode cX3_takeFirst 48 = .ok (.iconst 1, 1) := by decide +kernel
theorem dX3_takeFirst_49 : decode cX3_takeFirst 49 = .ok (.isub, 1) := by decide +kernel
theorem dX3_takeFirst_50 : decode cX3_takeFirst 50 = .ok (.aload_n 0, 1) := by decide +kernel
theorem dX3_takeFirst_51 : decode cX3_takeFirst 51 = .ok (.getfield 9, 3) := by decide +kernel
theorem dX3_takeFirst_54 : decode cX3_takeFirst 54 = .ok (.iload_n 2, 1) := by decide +kernel
theorem dX3_takeFirst_55 : decode cX3_takeFirst 55 = .ok (.iaload, 1) := by decide +kernel
theorem dX3_takeFirst_56 : decode cX3_takeFirst 56 = .ok (.iastore, 1) := by decide +kernel
theorem dX3_takeFirst_57 : decode cX3_takeFirst 57 = .ok (.iinc 2 1, 3) := by decide +kernel
theorem dX3_takeFirst_60 : decode cX3_takeFirst 60 = .ok (.goto (-34), 3) := by decide +kernel
theorem dX3_takeFirst_63 : decode cX3_takeFirst 63 = .ok (.aload_n 0, 1) := by decide +kernel
theorem dX3_takeFirst_64 : decode cX3_takeFirst 64 = .ok (.dup, 1) := by decide +kernel
theorem dX3_takeFirst_65 : decode cX3_takeFirst 65 = .ok (.getfield 15, 3) := by decide +kernel
theorem dX3_takeFirst_68 : decode cX3_takeFirst 68 = .ok (.iconst 1, 1) := by decide +kernel
theorem dX3_takeFirst_69 : decode cX3_takeFirst 69 = .ok (.isub, 1) := by decide +kernel
theorem dX3_takeFirst_70 : decode cX3_takeFirst 70 = .ok (.putfield 15, 3) := by decide +kernel
theorem dX3_takeFirst_73 : decode cX3_takeFirst 73 = .ok (.iload_n 1, 1) := by decide +kernel
theorem dX3_takeFirst_74 : decode cX3_takeFirst 74 = .ok (.ireturn, 1) := by decide +kernel
theorem dX3_becomeLike_0 : decode cX3_becomeLike 0 = .ok (.aload_n 0, 1) := by decide +kernel
theorem dX3_becomeLike_1 : decode cX3_becomeLike 1 = .ok (.aload_n 1, 1) := by decide +kernel
theorem dX3_becomeLike_2 : decode cX3_becomeLike 2 = .ok (.getfield 15, 3) := by decide +kernel
theorem dX3_becomeLike_5 : decode cX3_becomeLike 5 = .ok (.putfield 15, 3) := by decide +kernel
theorem dX3_becomeLike_8 : decode cX3_becomeLike 8 = .ok (.iconst 0, 1) := by decide +kernel
theorem dX3_becomeLike_9 : decode cX3_becomeLike 9 = .ok (.istore_n 2, 1) := by decide +kernel
theorem dX3_becomeLike_10 : decode cX3_becomeLike 10 = .ok (.iload_n 2, 1) := by decide +kernel
theorem dX3_becomeLike_11 : decode cX3_becomeLike 11 = .ok (.aload_n 0, 1) := by decide +kernel
theorem dX3_becomeLike_12 : decode cX3_becomeLike 12 = .ok (.getfield 9, 3) := by decide +kernel
theorem dX3_becomeLike_15 : decode cX3_becomeLike 15 = .ok (.arraylength, 1) := by decide +kernel
theorem dX3_becomeLike_16 : decode cX3_becomeLike 16 = .ok (.if_icmp .ge 20, 3) := by decide +kernel
theorem dX3_becomeLike_19 : decode cX3_becomeLike 19 = .ok (.aload_n 0, 1) := by decide +kernel
theorem dX3_becomeLike_20 : decode cX3_becomeLike 20 = .ok (.getfield 9, 3) := by decide +kernel
theorem dX3_becomeLike_23 : decode cX3_becomeLike 23 = .ok (.iload_n 2, 1) := by decide +kernel
theorem dX3_becomeLike_24 : decode cX3_becomeLike 24 = .ok (.aload_n 1, 1) := by decide +kernel
theorem dX3_becomeLike_25 : decode cX3_becomeLike 25 = .ok (.iload_n 2, 1) := by decide +kernel
theorem dX3_becomeLike_26 : decode cX3_becomeLike 26 = .ok (.invokevirtual 19, 3) := by decide +kernel
theorem dX3_becomeLike_29 : decode cX3_becomeLike 29 = .ok (.iastore, 1) := by decide +kernel
theorem dX3_becomeLike_30 : decode cX3_becomeLike 30 = .ok (.iinc 2 1, 3) := by decide +kernel
theorem dX3_becomeLike_33 : decode cX3_becomeLike 33 = .ok (.goto (-23), 3) := by decide +kernel
theorem dX3_becomeLike_36 : decode cX3_becomeLike 36 = .ok (.return_, 1) := by decide +kernel
theorem dX4_init_0 : decode cX4_init 0 = .ok (.aload_n 0, 1) := by decide +kernel
theorem dX4_init_1 : decode cX4_init 1 = .ok (.invokespecial 3, 3) := by decide +kernel
theorem dX4_init_4 : decode cX4_init 4 = .ok (.aload_n 0, 1) := by decide +kernel
theorem dX4_init_5 : decode cX4_init 5 = .ok (.iconst 3, 1) := by decide +kernel
theorem dX4_init_6 : decode cX4_init 6 = .ok (.putfield 9, 3) := by decide +kernel
theorem dX4_init_9 : decode cX4_init 9 = .ok (.return_, 1) := by decide +kernel
theorem dX4_describe_0 : decode cX4_describe 0 = .ok (.aload_n 0, 1) := by decide +kernel
theorem dX4_describe_1 : decode cX4_describe 1 = .ok (.iload_n 1, 1) := by decide +kernel
theorem dX4_describe_2 : decode cX4_describe 2 = .ok (.putfield 9, 3) := by decide +kernel
theorem dX4_describe_5 : decode cX4_describe 5 = .ok (.aload_n 0, 1) := by decide +kernel
theorem dX4_describe_6 : decode cX4_describe 6 = .ok (.iload_n 2, 1) := by decide +kernel
theorem dX4_describe_7 : decode cX4_describe 7 = .ok (.putfield 15, 3) := by decide +kernel
theorem dX4_describe_10 : decode cX4_describe 10 = .ok (.aload_n 0, 1) := by decide +kernel
theorem dX4_describe_11 : decode cX4_describe 11 = .ok (.iload_n 3, 1) := by decide +kernel
theorem dX4_describe_12 : decode cX4_describe 12 = .ok (.putfield 18, 3) := by decide +kernel
theorem dX4_describe_15 : decode cX4_describe 15 = .ok (.return_, 1) := by decide +kernel
theorem dX4_becomeLike_0 : decode cX4_becomeLike 0 = .ok (.aload_n 0, 1) := by decide +kernel
theorem dX4_becomeLike_1 : decode cX4_becomeLike 1 = .ok (.aload_n 1, 1) := by decide +kernel
theorem dX4_becomeLike_2 : decode cX4_becomeLike 2 = .ok (.getfield 9, 3) := by decide +kernel
theorem dX4_becomeLike_5 : decode cX4_becomeLike 5 = .ok (.putfield 9, 3) := by decide +kernel
theorem dX4_becomeLike_8 : decode cX4_becomeLike 8 = .ok (.aload_n 0, 1) := by decide +kernel
theorem dX4_becomeLike_9 : decode cX4_becomeLike 9 = .ok (.aload_n 1, 1) := by decide +kernel
theorem dX4_becomeLike_10 : decode cX4_becomeLike 10 = .ok (.getfield 15, 3) := by decide +kernel
theorem dX4_becomeLike_13 : decode cX4_becomeLike 13 = .ok (.putfield 15, 3) := by decide +kernel
theorem dX4_becomeLike_16 : decode cX4_becomeLike 16 = .ok (.aload_n 0, 1) := by decide +kernel
theorem dX4_becomeLike_17 : decode cX4_becomeLike 17 = .ok (.aload_n 1, 1) := by decide +kernel
theorem dX4_becomeLike_18 : decode cX4_becomeLike 18 = .ok (.getfield 18, 3) := by decide +kernel
theorem dX4_becomeLike_21 : decode cX4_becomeLike 21 = .ok (.putfield 18, 3) := by decide +kernel
theorem dX4_becomeLike_24 : decode cX4_becomeLike 24 = .ok (.aload_n 0, 1) := by decide +kernel
theorem dX4_becomeLike_25 : decode cX4_becomeLike 25 = .ok (.aload_n 1, 1) := by decide +kernel
theorem dX4_becomeLike_26 : decode cX4_becomeLike 26 = .ok (.getfield 21, 3) := by decide +kernel
theorem dX4_becomeLike_29 : decode cX4_becomeLike 29 = .ok (.putfield 21, 3) := by decide +kernel
theorem dX4_becomeLike_32 : decode cX4_becomeLike 32 = .ok (.return_, 1) := by decide +kernel
theorem dX5_init_0 : decode cX5_init 0 = .ok (.aload_n 0, 1) := by decide +kernel
theorem dX5_init_1 : decode cX5_init 1 = .ok (.invokespecial 1, 3) := by decide +kernel
theorem dX5_init_4 : decode cX5_init 4 = .ok (.aload_n 0, 1) := by decide +kernel
theorem dX5_init_5 : decode cX5_init 5 = .ok (.new 7, 3) := by decide +kernel
theorem dX5_init_8 : decode cX5_init 8 = .ok (.dup, 1) := by decide +kernel
theorem dX5_init_9 : decode cX5_init 9 = .ok (.invokespecial 9, 3) := by decide +kernel
theorem dX5_init_12 : decode cX5_init 12 = .ok (.putfield 10, 3) := by decide +kernel
theorem dX5_init_15 : decode cX5_init 15 = .ok (.aload_n 0, 1) := by decide +kernel
theorem dX5_init_16 : decode cX5_init 16 = .ok (.new 7, 3) := by decide +kernel
theorem dX5_init_19 : decode cX5_init 19 = .ok (.dup, 1) := by decide +kernel
theorem dX5_init_20 : decode cX5_init 20 = .ok (.invokespecial 9, 3) := by decide +kernel
theorem dX5_init_23 : decode cX5_init 23 = .ok (.putfield 16, 3) := by decide +kernel
theorem dX5_init_26 : decode cX5_init 26 = .ok (.return_, 1) := by decide +kernel
theorem dX5_addChannel_0 : decode cX5_addChannel 0 = .ok (.iload_n 1, 1) := by decide +kernel
theorem dX5_addChannel_1 : decode cX5_addChannel 1 = .ok (.iconst 1, 1) := by decide +kernel
theorem dX5_addChannel_2 : decode cX5_addChannel 2 = .ok (.if_icmp .lt 8, 3) := by decide +kernel
theorem dX5_addChannel_5 : decode cX5_addChannel 5 = .ok (.iload_n 1, 1) := by decide +kernel
theorem dX5_addChannel_6 : decode cX5_addChannel 6 = .ok (.iconst 4, 1) := by decide +kernel
theorem dX5_addChannel_7 : decode cX5_addChannel 7 = .ok (.if_icmp .le 13, 3) := by decide +kernel
theorem dX5_addChannel_10 : decode cX5_addChannel 10 = .ok (.new 19, 3) := by decide +kernel
theorem dX5_addChannel_13 : decode cX5_addChannel 13 = .ok (.dup, 1) := by decide +kernel
theorem dX5_addChannel_14 : decode cX5_addChannel 14 = .ok (.ldc 21, 2) := by decide +kernel
theorem dX5_addChannel_16 : decode cX5_addChannel 16 = .ok (.invokespecial 23, 3) := by decide +kernel
theorem dX5_addChannel_19 : decode cX5_addChannel 19 = .ok (.athrow, 1) := by decide +kernel
theorem dX5_addChannel_20 : decode cX5_addChannel 20 = .ok (.aload_n 0, 1) := by decide +kernel
theorem dX5_addChannel_21 : decode cX5_addChannel 21 = .ok (.getfield 10, 3) := by decide +kernel
theorem dX5_addChannel_24 : decode cX5_addChannel 24 = .ok (.getfield 26, 3) := by decide +kernel
theorem dX5_addChannel_27 : decode cX5_addChannel 27 = .ok (.iconst 4, 1) := by decide +kernel
theorem dX5_addChannel_28 : decode cX5_addChannel 28 = .ok (.if_icmp .lt 13, 3) := by decide +kernel
theorem dX5_addChannel_31 : decode cX5_addChannel 31 = .ok (.new 30, 3) := by decide +kernel
theorem dX5_addChannel_34 : decode cX5_addChannel 34 = .ok (.dup, 1) := by decide +kernel
theorem dX5_addChannel_35 : decode cX5_addChannel 35 = .ok (.ldc 32, 2) := by decide +kernel
theorem dX5_addChannel_37 : decode cX5_addChannel 37 = .ok (.invokespecial 34, 3) := by decide +kernel
theorem dX5_addChannel_40 : decode cX5_addChannel 40 = .ok (.athrow, 1) := by decide +kernel
theorem dX5_addChannel_41 : decode cX5_addChannel 41 = .ok (.aload_n 0, 1) := by decide +kernel
theorem dX5_addChannel_42 : decode cX5_addChannel 42 = .ok (.getfield 10, 3) := by decide +kernel
theorem dX5_addChannel_45 : decode cX5_addChannel 45 = .ok (.getfield 26, 3) := by decide +kernel
theorem dX5_addChannel_48 : decode cX5_addChannel 48 = .ok (.istore_n 2, 1) := by decide +kernel
theorem dX5_addChannel_49 : decode cX5_addChannel 49 = .ok (.aload_n 0, 1) := by decide +kernel
theorem dX5_addChannel_50 : decode cX5_addChannel 50 = .ok (.getfield 10, 3) := by decide +kernel
theorem dX5_addChannel_53 : decode cX5_addChannel 53 = .ok (.iload_n 2, 1) := by decide +kernel
theorem dX5_addChannel_54 : decode cX5_addChannel 54 = .ok (.invokevirtual 35, 3) := by decide +kernel
theorem dX5_addChannel_57 : decode cX5_addChannel 57 = .ok (.iload_n 1, 1) := by decide +kernel
theorem dX5_addChannel_58 : decode cX5_addChannel 58 = .ok (.putfield 39, 3) := by decide +kernel
theorem dX5_addChannel_61 : decode cX5_addChannel 61 = .ok (.aload_n 0, 1) := by decide +kernel
theorem dX5_addChannel_62 : decode cX5_addChannel 62 = .ok (.getfield 10, 3) := by decide +kernel
theorem dX5_addChannel_65 : decode cX5_addChannel 65 = .ok (.dup, 1) := by decide +kernel
theorem dX5_addChannel_66 : decode cX5_addChannel 66 = .ok (.getfield 26, 3) := by decide +kernel
theorem dX5_addChannel_69 : decode cX5_addChannel 69 = .ok (.iconst 1, 1) := by decide +kernel
theorem dX5_addChannel_70 : decode cX5_addChannel 70 = .ok (.iadd, 1) := by decide +kernel
theorem dX5_addChannel_71 : decode cX5_addChannel 71 = .ok (.putfield 26, 3) := by decide +kernel
theorem dX5_addChannel_74 : decode cX5_addChannel 74 = .ok (.iload_n 2, 1) := by decide +kernel
theorem dX5_addChannel_75 : decode cX5_addChannel 75 = .ok (.ireturn, 1) := by decide +kernel
theorem dX5_addFiber_0 : decode cX5_addFiber 0 = .ok (.aload_n 0, 1) := by decide +kernel
theorem dX5_addFiber_1 : decode cX5_addFiber 1 = .ok (.getfield 10, 3) := by decide +kernel
theorem dX5_addFiber_4 : decode cX5_addFiber 4 = .ok (.getfield 44, 3) := by decide +kernel
theorem dX5_addFiber_7 : decode cX5_addFiber 7 = .ok (.bipush 8, 2) := by decide +kernel
theorem dX5_addFiber_9 : decode cX5_addFiber 9 = .ok (.if_icmp .lt 13, 3) := by decide +kernel
theorem dX5_addFiber_12 : decode cX5_addFiber 12 = .ok (.new 30, 3) := by decide +kernel
theorem dX5_addFiber_15 : decode cX5_addFiber 15 = .ok (.dup, 1) := by decide +kernel
theorem dX5_addFiber_16 : decode cX5_addFiber 16 = .ok (.ldc 47, 2) := by decide +kernel
theorem dX5_addFiber_18 : decode cX5_addFiber 18 = .ok (.invokespecial 34, 3) := by decide +kernel
theorem dX5_addFiber_21 : decode cX5_addFiber 21 = .ok (.athrow, 1) := by decide +kernel
theorem dX5_addFiber_22 : decode cX5_addFiber 22 = .ok (.aload_n 0, 1) := by decide +kernel
theorem dX5_addFiber_23 : decode cX5_addFiber 23 = .ok (.getfield 10, 3) := by decide +kernel
theorem dX5_addFiber_26 : decode cX5_addFiber 26 = .ok (.getfield 44, 3) := by decide +kernel
theorem dX5_addFiber_29 : decode cX5_addFiber 29 = .ok (.istore_n 1, 1) := by decide +kernel
theorem dX5_addFiber_30 : decode cX5_addFiber 30 = .ok (.aload_n 0, 1) := by decide +kernel
theorem dX5_addFiber_31 : decode cX5_addFiber 31 = .ok (.getfield 10, 3) := by decide +kernel
theorem dX5_addFiber_34 : decode cX5_addFiber 34 = .ok (.dup, 1) := by decide +kernel
theorem dX5_addFiber_35 : decode cX5_addFiber 35 = .ok (.getfield 44, 3) := by decide +kernel
theorem dX5_addFiber_38 : decode cX5_addFiber 38 = .ok (.iconst 1, 1) := by decide +kernel
theorem dX5_addFiber_39 : decode cX5_addFiber 39 = .ok (.iadd, 1) := by decide +kernel
theorem dX5_addFiber_40 : decode cX5_addFiber 40 = .ok (.putfield 44, 3) := by decide +kernel
theorem dX5_addFiber_43 : decode cX5_addFiber 43 = .ok (.iload_n 1, 1) := by decide +kernel
theorem dX5_addFiber_44 : decode cX5_addFiber 44 = .ok (.ireturn, 1) := by decide +kernel
theorem dX5_addStep_0 : decode cX5_addStep 0 = .ok (.aload_n 0, 1) := by decide +kernel
theorem dX5_addStep_1 : decode cX5_addStep 1 = .ok (.iload_n 1, 1) := by decide +kernel
theorem dX5_addStep_2 : decode cX5_addStep 2 = .ok (.invokevirtual 49, 3) := by decide +kernel
theorem dX5_addStep_5 : decode cX5_addStep 5 = .ok (.aload_n 0, 1) := by decide +kernel
theorem dX5_addStep_6 : decode cX5_addStep 6 = .ok (.iload_n 1, 1) := by decide +kernel
theorem dX5_addStep_7 : decode cX5_addStep 7 = .ok (.iload_n 2, 1) := by decide +kernel
theorem dX5_addStep_8 : decode cX5_addStep 8 = .ok (.iload_n 3, 1) := by decide +kernel
theorem dX5_addStep_9 : decode cX5_addStep 9 = .ok (.iload 4, 2) := by decide +kernel
theorem dX5_addStep_11 : decode cX5_addStep 11 = .ok (.invokevirtual 53, 3) := by decide +kernel
theorem dX5_addStep_14 : decode cX5_addStep 14 = .ok (.ifCond .ne 13, 3) := by decide +kernel
theorem dX5_addStep_17 : decode cX5_addStep 17 = .ok (.new 19, 3) := by decide +kernel
theorem dX5_addStep_20 : decode cX5_addStep 20 = .ok (.dup, 1) := by decide +kernel
theorem dX5_addStep_21 : decode cX5_addStep 21 = .ok (.ldc 57, 2) := by decide +kernel
theorem dX5_addStep_23 : decode cX5_addStep 23 = .ok (.invokespecial 23, 3) := by decide +kernel
theorem dX5_addStep_26 : decode cX5_addStep 26 = .ok (.athrow, 1) := by decide +kernel
theorem dX5_addStep_27 : decode cX5_addStep 27 = .ok (.aload_n 0, 1) := by decide +kernel
theorem dX5_addStep_28 : decode cX5_addStep 28 = .ok (.getfield 10, 3) := by decide +kernel
theorem dX5_addStep_31 : decode cX5_addStep 31 = .ok (.iload_n 1, 1) := by decide +kernel
theorem dX5_addStep_32 : decode cX5_addStep 32 = .ok (.invokevirtual 59, 3) := by decide +kernel
theorem dX5_addStep_35 : decode cX5_addStep 35 = .ok (.astore 5, 2) := by decide +kernel
theorem dX5_addStep_37 : decode cX5_addStep 37 = .ok (.aload 5, 2) := by decide +kernel
theorem dX5_addStep_39 : decode cX5_addStep 39 = .ok (.getfield 63, 3) := by decide +kernel
theorem dX5_addStep_42 : decode cX5_addStep 42 = .ok (.bipush 12, 2) := by decide +kernel
theorem dX5_addStep_44 : decode cX5_addStep 44 = .ok (.if_icmp .lt 13, 3) := by decide +kernel
theorem dX5_addStep_47 : decode cX5_addStep 47 = .ok (.new 30, 3) := by decide +kernel
theorem dX5_addStep_50 : decode cX5_addStep 50 = .ok (.dup, 1) := by decide +kernel
theorem dX5_addStep_51 : decode cX5_addStep 51 = .ok (.ldc 68, 2) := by decide +kernel
theorem dX5_addStep_53 : decode cX5_addStep 53 = .ok (.invokespecial 34, 3) := by decide +kernel
theorem dX5_addStep_56 : decode cX5_addStep 56 = .ok (.athrow, 1) := by decide +kernel
theorem dX5_addStep_57 : decode cX5_addStep 57 = .ok (.aload 5, 2) := by decide +kernel
theorem dX5_addStep_59 : decode cX5_addStep 59 = .ok (.getfield 63, 3) := by decide +kernel
theorem dX5_addStep_62 : decode cX5_addStep 62 = .ok (.istore 6, 2) := by decide +kernel
theorem dX5_addStep_64 : decode cX5_addStep 64 = .ok (.aload 5, 2) := by decide +kernel
theorem dX5_addStep_66 : decode cX5_addStep 66 = .ok (.iload 6, 2) := by decide +kernel
theorem dX5_addStep_68 : decode cX5_addStep 68 = .ok (.invokevirtual 70, 3) := by decide +kernel
theorem dX5_addStep_71 : decode cX5_addStep 71 = .ok (.iload_n 2, 1) := by decide +kernel
theorem dX5_addStep_72 : decode cX5_addStep 72 = .ok (.iload_n 3, 1) := by decide +kernel
theorem dX5_addStep_73 : decode cX5_addStep 73 = .ok (.iload 4, 2) := by decide +kernel
theorem dX5_addStep_75 : decode cX5_addStep 75 = .ok (.invokevirtual 74, 3) := by decide +kernel
theorem dX5_addStep_78 : decode cX5_addStep 78 = .ok (.aload 5, 2) := by decide +kernel
theorem dX5_addStep_80 : decode cX5_addStep 80 = .ok (.dup, 1) := by decide +kernel
theorem dX5_addStep_81 : decode cX5_addStep 81 = .ok (.getfield 63, 3) := by decide +kernel
theorem dX5_addStep_84 : decode cX5_addStep 84 = .ok (.iconst 1, 1) := by decide +kernel
theorem dX5_addStep_85 : decode cX5_addStep 85 = .ok (.iadd, 1) := by decide +kernel
theorem dX5_addStep_86 : decode cX5_addStep 86 = .ok (.putfield 63, 3) := by decide +kernel
theorem dX5_addStep_89 : decode cX5_addStep 89 = .ok (.aload 5, 2) := by decide +kernel
theorem dX5_addStep_91 : decode cX5_addStep 91 = .ok (.getfield 80, 3) := by decide +kernel
theorem dX5_addStep_94 : decode cX5_addStep 94 = .ok (.iconst 5, 1) := by decide +kernel
theorem dX5_addStep_95 : decode cX5_addStep 95 = .ok (.if_icmp .ne 12, 3) := by decide +kernel
theorem dX5_addStep_98 : decode cX5_addStep 98 = .ok (.aload_n 0, 1) := by decide +kernel
theorem dX5_addStep_99 : decode cX5_addStep 99 = .ok (.getfield 10, 3) := by decide +kernel
theorem dX5_addStep_102 : decode cX5_addStep 102 = .ok (.aload 5, 2) := by decide +kernel
theorem dX5_addStep_104 : decode cX5_addStep 104 = .ok (.invokevirtual 83, 3) := by decide +kernel
theorem dX5_addStep_107 : decode cX5_addStep 107 = .ok (.iload 6, 2) := by decide +kernel
theorem dX5_addStep_109 : decode cX5_addStep 109 = .ok (.ireturn, 1) := by decide +kernel
theorem dX5_pour_0 : decode cX5_pour 0 = .ok (.aload_n 0, 1) := by decide +kernel
theorem dX5_pour_1 : decode cX5_pour 1 = .ok (.iload_n 1, 1) := by decide +kernel
theorem dX5_pour_2 : decode cX5_pour 2 = .ok (.invokevirtual 87, 3) := by decide +kernel
theorem dX5_pour_5 : decode cX5_pour 5 = .ok (.aload_n 0, 1) := by decide +kernel
theorem dX5_pour_6 : decode cX5_pour 6 = .ok (.iload_n 2, 1) := by decide +kernel
theorem dX5_pour_7 : decode cX5_pour 7 = .ok (.invokevirtual 90, 3) := by decide +kernel
theorem dX5_pour_10 : decode cX5_pour 10 = .ok (.ifCond .ne 13, 3) := by decide +kernel
theorem dX5_pour_13 : decode cX5_pour 13 = .ok (.new 19, 3) := by decide +kernel
theorem dX5_pour_16 : decode cX5_pour 16 = .ok (.dup, 1) := by decide +kernel
theorem dX5_pour_17 : decode cX5_pour 17 = .ok (.ldc 94, 2) := by decide +kernel
theorem dX5_pour_19 : decode cX5_pour 19 = .ok (.invokespecial 23, 3) := by decide +kernel
theorem dX5_pour_22 : decode cX5_pour 22 = .ok (.athrow, 1) := by decide +kernel
theorem dX5_pour_23 : decode cX5_pour 23 = .ok (.aload_n 0, 1) := by decide +kernel
theorem dX5_pour_24 : decode cX5_pour 24 = .ok (.getfield 10, 3) := by decide +kernel
theorem dX5_pour_27 : decode cX5_pour 27 = .ok (.iload_n 1, 1) := by decide +kernel
theorem dX5_pour_28 : decode cX5_pour 28 = .ok (.invokevirtual 35, 3) := by decide +kernel
theorem dX5_pour_31 : decode cX5_pour 31 = .ok (.astore_n 3, 1) := by decide +kernel
theorem dX5_pour_32 : decode cX5_pour 32 = .ok (.aload_n 3, 1) := by decide +kernel
theorem dX5_pour_33 : decode cX5_pour 33 = .ok (.invokevirtual 96, 3) := by decide +kernel
theorem dX5_pour_36 : decode cX5_pour 36 = .ok (.ifCond .ne 13, 3) := by decide +kernel
theorem dX5_pour_39 : decode cX5_pour 39 = .ok (.new 30, 3) := by decide +kernel
theorem dX5_pour_42 : decode cX5_pour 42 = .ok (.dup, 1) := by decide +kernel
theorem dX5_pour_43 : decode cX5_pour 43 = .ok (.ldc 100, 2) := by decide +kernel
theorem dX5_pour_45 : decode cX5_pour 45 = .ok (.invokespecial 34, 3) := by decide +kernel
theorem dX5_pour_48 : decode cX5_pour 48 = .ok (.athrow, 1) := by decide +kernel
theorem dX5_pour_49 : decode cX5_pour 49 = .ok (.aload_n 3, 1) := by decide +kernel
theorem dX5_pour_50 : decode cX5_pour 50 = .ok (.getfield 102, 3) := by decide +kernel
theorem dX5_pour_53 : decode cX5_pour 53 = .ok (.iload_n 2, 1) := by decide +kernel
theorem dX5_pour_54 : decode cX5_pour 54 = .ok (.invokevirtual 106, 3) := by decide +kernel
theorem dX5_pour_57 : decode cX5_pour 57 = .ok (.aload_n 0, 1) := by decide +kernel
theorem dX5_pour_58 : decode cX5_pour 58 = .ok (.getfield 10, 3) := by decide +kernel
theorem dX5_pour_61 : decode cX5_pour 61 = .ok (.aload_n 3, 1) := by decide +kernel
theorem dX5_pour_62 : decode cX5_pour 62 = .ok (.getfield 111, 3) := by decide +kernel
theorem dX5_pour_65 : decode cX5_pour 65 = .ok (.invokevirtual 114, 3) := by decide +kernel
theorem dX5_pour_68 : decode cX5_pour 68 = .ok (.aload_n 3, 1) := by decide +kernel
theorem dX5_pour_69 : decode cX5_pour 69 = .ok (.getfield 102, 3) := by decide +kernel
theorem dX5_pour_72 : decode cX5_pour 72 = .ok (.getfield 118, 3) := by decide +kernel
theorem dX5_pour_75 : decode cX5_pour 75 = .ok (.ireturn, 1) := by decide +kernel
theorem dX5_run_0 : decode cX5_run 0 = .ok (.aload_n 0, 1) := by decide +kernel
theorem dX5_run_1 : decode cX5_run 1 = .ok (.iload_n 1, 1) := by decide +kernel
theorem dX5_run_2 : decode cX5_run 2 = .ok (.invokevirtual 121, 3) := by decide +kernel
theorem dX5_run_5 : decode cX5_run 5 = .ok (.aload_n 0, 1) := by decide +kernel
theorem dX5_run_6 : decode cX5_run 6 = .ok (.getfield 10, 3) := by decide +kernel
theorem dX5_run_9 : decode cX5_run 9 = .ok (.getfield 124, 3) := by decide +kernel
theorem dX5_run_12 : decode cX5_run 12 = .ok (.istore_n 2, 1) := by decide +kernel
theorem dX5_run_13 : decode cX5_run 13 = .ok (.iconst 0, 1) := by decide +kernel
theorem dX5_run_14 : decode cX5_run 14 = .ok (.istore_n 3, 1) := by decide +kernel
theorem dX5_run_15 : decode cX5_run 15 = .ok (.iload_n 3, 1) := by decide +kernel
theorem dX5_run_16 : decode cX5_run 16 = .ok (.iload_n 1, 1) := by decide +kernel
theorem dX5_run_17 : decode cX5_run 17 = .ok (.if_icmp .ge 16, 3) := by decide +kernel
theorem dX5_run_20 : decode cX5_run 20 = .ok (.aload_n 0, 1) := by decide +kernel
theorem dX5_run_21 : decode cX5_run 21 = .ok (.getfield 10, 3) := by decide +kernel
theorem dX5_run_24 : decode cX5_run 24 = .ok (.invokevirtual 127, 3) := by decide +kernel
theorem dX5_run_27 : decode cX5_run 27 = .ok (.iinc 3 1, 3) := by decide +kernel
theorem dX5_run_30 : decode cX5_run 30 = .ok (.goto (-15), 3) := by decide +kernel
theorem dX5_run_33 : decode cX5_run 33 = .ok (.aload_n 0, 1) := by decide +kernel
theorem dX5_run_34 : decode cX5_run 34 = .ok (.getfield 10, 3) := by decide +kernel
theorem dX5_run_37 : decode cX5_run 37 = .ok (.getfield 124, 3) := by decide +kernel
theorem dX5_run_40 : decode cX5_run 40 = .ok (.iload_n 2, 1) := by decide +kernel
theorem dX5_run_41 : decode cX5_run 41 = .ok (.isub, 1) := by decide +kernel
theorem dX5_run_42 : decode cX5_run 42 = .ok (.ireturn, 1) := by decide +kernel
theorem dX5_time_0 : decode cX5_time 0 = .ok (.aload_n 0, 1) := by decide +kernel
theorem dX5_time_1 : decode cX5_time 1 = .ok (.getfield 10, 3) := by decide +kernel
theorem dX5_time_4 : decode cX5_time 4 = .ok (.getfield 130, 3) := by decide +kernel
theorem dX5_time_7 : decode cX5_time 7 = .ok (.ireturn, 1) := by decide +kernel
theorem dX5_channels_0 : decode cX5_channels 0 = .ok (.aload_n 0, 1) := by decide +kernel
theorem dX5_channels_1 : decode cX5_channels 1 = .ok (.getfield 10, 3) := by decide +kernel
theorem dX5_channels_4 : decode cX5_channels 4 = .ok (.getfield 26, 3) := by decide +kernel
theorem dX5_channels_7 : decode cX5_channels 7 = .ok (.ireturn, 1) := by decide +kernel
theorem dX5_fibers_0 : decode cX5_fibers 0 = .ok (.aload_n 0, 1) := by decide +kernel
theorem dX5_fibers_1 : decode cX5_fibers 1 = .ok (.getfield 10, 3) := by decide +kernel
theorem dX5_fibers_4 : decode cX5_fibers 4 = .ok (.getfield 44, 3) := by decide +kernel
theorem dX5_fibers_7 : decode cX5_fibers 7 = .ok (.ireturn, 1) := by decide +kernel
theorem dX5_done_0 : decode cX5_done 0 = .ok (.aload_n 0, 1) := by decide +kernel
theorem dX5_done_1 : decode cX5_done 1 = .ok (.getfield 10, 3) := by decide +kernel
theorem dX5_done_4 : decode cX5_done 4 = .ok (.invokevirtual 133, 3) := by decide +kernel
theorem dX5_done_7 : decode cX5_done 7 = .ok (.ireturn, 1) := by decide +kernel
theorem dX5_idleTurns_0 : decode cX5_idleTurns 0 = .ok (.aload_n 0, 1) := by decide +kernel
theorem dX5_idleTurns_1 : decode cX5_idleTurns 1 = .ok (.getfield 10, 3) := by decide +kernel
theorem dX5_idleTurns_4 : decode cX5_idleTurns 4 = .ok (.getfield 124, 3) := by decide +kernel
theorem dX5_idleTurns_7 : decode cX5_idleTurns 7 = .ok (.ireturn, 1) := by decide +kernel
theorem dX5_next_0 : decode cX5_next 0 = .ok (.aload_n 0, 1) := by decide +kernel
theorem dX5_next_1 : decode cX5_next 1 = .ok (.getfield 10, 3) := by decide +kernel
theorem dX5_next_4 : decode cX5_next 4 = .ok (.getfield 137, 3) := by decide +kernel
theorem dX5_next_7 : decode cX5_next 7 = .ok (.iconst 0, 1) := by decide +kernel
theorem dX5_next_8 : decode cX5_next 8 = .ok (.invokevirtual 140, 3) := by decide +kernel
theorem dX5_next_11 : decode cX5_next 11 = .ok (.ireturn, 1) := by decide +kernel
theorem dX5_isStuck_0 : decode cX5_isStuck 0 = .ok (.aload_n 0, 1) := by decide +kernel
theorem dX5_isStuck_1 : decode cX5_isStuck 1 = .ok (.getfield 10, 3) := by decide +kernel
theorem dX5_isStuck_4 : decode cX5_isStuck 4 = .ok (.invokevirtual 144, 3) := by decide +kernel
theorem dX5_isStuck_7 : decode cX5_isStuck 7 = .ok (.ifCond .eq 17, 3) := by decide +kernel
theorem dX5_isStuck_10 : decode cX5_isStuck 10 = .ok (.aload_n 0, 1) := by decide +kernel
theorem dX5_isStuck_11 : decode cX5_isStuck 11 = .ok (.getfield 10, 3) := by decide +kernel
theorem dX5_isStuck_14 : decode cX5_isStuck 14 = .ok (.invokevirtual 147, 3) := by decide +kernel
theorem dX5_isStuck_17 : decode cX5_isStuck 17 = .ok (.ifCond .ne 7, 3) := by decide +kernel
theorem dX5_isStuck_20 : decode cX5_isStuck 20 = .ok (.iconst 1, 1) := by decide +kernel
theorem dX5_isStuck_21 : decode cX5_isStuck 21 = .ok (.goto 4, 3) := by decide +kernel
theorem dX5_isStuck_24 : decode cX5_isStuck 24 = .ok (.iconst 0, 1) := by decide +kernel
theorem dX5_isStuck_25 : decode cX5_isStuck 25 = .ok (.ireturn, 1) := by decide +kernel
theorem dX5_held_0 : decode cX5_held 0 = .ok (.aload_n 0, 1) := by decide +kernel
theorem dX5_held_1 : decode cX5_held 1 = .ok (.iload_n 1, 1) := by decide +kernel
theorem dX5_held_2 : decode cX5_held 2 = .ok (.invokevirtual 87, 3) := by decide +kernel
theorem dX5_held_5 : decode cX5_held 5 = .ok (.aload_n 0, 1) := by decide +kernel
theorem dX5_held_6 : decode cX5_held 6 = .ok (.getfield 10, 3) := by decide +kernel
theorem dX5_held_9 : decode cX5_held 9 = .ok (.iload_n 1, 1) := by decide +kernel
theorem dX5_held_10 : decode cX5_held 10 = .ok (.invokevirtual 35, 3) := by decide +kernel
theorem dX5_held_13 : decode cX5_held 13 = .ok (.getfield 102, 3) := by decide +kernel
theorem dX5_held_16 : decode cX5_held 16 = .ok (.getfield 118, 3) := by decide +kernel
theorem dX5_held_19 : decode cX5_held 19 = .ok (.ireturn, 1) := by decide +kernel
theorem dX5_valueAt_0 : decode cX5_valueAt 0 = .ok (.aload_n 0, 1) := by decide +kernel
theorem dX5_valueAt_1 : decode cX5_valueAt 1 = .ok (.iload_n 1, 1) := by decide +kernel
theorem dX5_valueAt_2 : decode cX5_valueAt 2 = .ok (.invokevirtual 87, 3) := by decide +kernel
theorem dX5_valueAt_5 : decode cX5_valueAt 5 = .ok (.aload_n 0, 1) := by decide +kernel
theorem dX5_valueAt_6 : decode cX5_valueAt 6 = .ok (.getfield 10, 3) := by decide +kernel
theorem dX5_valueAt_9 : decode cX5_valueAt 9 = .ok (.iload_n 1, 1) := by decide +kernel
theorem dX5_valueAt_10 : decode cX5_valueAt 10 = .ok (.invokevirtual 35, 3) := by decide +kernel
theorem dX5_valueAt_13 : decode cX5_valueAt 13 = .ok (.getfield 102, 3) := by decide +kernel
theorem dX5_valueAt_16 : decode cX5_valueAt 16 = .ok (.astore_n 3, 1) := by decide +kernel
theorem dX5_valueAt_17 : decode cX5_valueAt 17 = .ok (.iload_n 2, 1) := by decide +kernel
theorem dX5_valueAt_18 : decode cX5_valueAt 18 = .ok (.ifCond .lt 11, 3) := by decide +kernel
theorem dX5_valueAt_21 : decode cX5_valueAt 21 = .ok (.iload_n 2, 1) := by decide +kernel
theorem dX5_valueAt_22 : decode cX5_valueAt 22 = .ok (.aload_n 3, 1) := by decide +kernel
theorem dX5_valueAt_23 : decode cX5_valueAt 23 = .ok (.getfield 118, 3) := by decide +kernel
theorem dX5_valueAt_26 : decode cX5_valueAt 26 = .ok (.if_icmp .lt 13, 3) := by decide +kernel
theorem dX5_valueAt_29 : decode cX5_valueAt 29 = .ok (.new 150, 3) := by decide +kernel
theorem dX5_valueAt_32 : decode cX5_valueAt 32 = .ok (.dup, 1) := by decide +kernel
theorem dX5_valueAt_33 : decode cX5_valueAt 33 = .ok (.ldc 152, 2) := by decide +kernel
theorem dX5_valueAt_35 : decode cX5_valueAt 35 = .ok (.invokespecial 154, 3) := by decide +kernel
theorem dX5_valueAt_38 : decode cX5_valueAt 38 = .ok (.athrow, 1) := by decide +kernel
theorem dX5_valueAt_39 : decode cX5_valueAt 39 = .ok (.aload_n 3, 1) := by decide +kernel
theorem dX5_valueAt_40 : decode cX5_valueAt 40 = .ok (.iload_n 2, 1) := by decide +kernel
theorem dX5_valueAt_41 : decode cX5_valueAt 41 = .ok (.invokevirtual 140, 3) := by decide +kernel
theorem dX5_valueAt_44 : decode cX5_valueAt 44 = .ok (.ireturn, 1) := by decide +kernel
theorem dX5_sendersAt_0 : decode cX5_sendersAt 0 = .ok (.aload_n 0, 1) := by decide +kernel
theorem dX5_sendersAt_1 : decode cX5_sendersAt 1 = .ok (.iload_n 1, 1) := by decide +kernel
theorem dX5_sendersAt_2 : decode cX5_sendersAt 2 = .ok (.invokevirtual 87, 3) := by decide +kernel
theorem dX5_sendersAt_5 : decode cX5_sendersAt 5 = .ok (.aload_n 0, 1) := by decide +kernel
theorem dX5_sendersAt_6 : decode cX5_sendersAt 6 = .ok (.getfield 10, 3) := by decide +kernel
theorem dX5_sendersAt_9 : decode cX5_sendersAt 9 = .ok (.iload_n 1, 1) := by decide +kernel
theorem dX5_sendersAt_10 : decode cX5_sendersAt 10 = .ok (.invokevirtual 35, 3) := by decide +kernel
theorem dX5_sendersAt_13 : decode cX5_sendersAt 13 = .ok (.getfield 155, 3) := by decide +kernel
theorem dX5_sendersAt_16 : decode cX5_sendersAt 16 = .ok (.getfield 118, 3) := by decide +kernel
theorem dX5_sendersAt_19 : decode cX5_sendersAt 19 = .ok (.ireturn, 1) := by decide +kernel
theorem dX5_takersAt_0 : decode cX5_takersAt 0 = .ok (.aload_n 0, 1) := by decide +kernel
theorem dX5_takersAt_1 : decode cX5_takersAt 1 = .ok (.iload_n 1, 1) := by decide +kernel
theorem dX5_takersAt_2 : decode cX5_takersAt 2 = .ok (.invokevirtual 87, 3) := by decide +kernel
theorem dX5_takersAt_5 : decode cX5_takersAt 5 = .ok (.aload_n 0, 1) := by decide +kernel
theorem dX5_takersAt_6 : decode cX5_takersAt 6 = .ok (.getfield 10, 3) := by decide +kernel
theorem dX5_takersAt_9 : decode cX5_takersAt 9 = .ok (.iload_n 1, 1) := by decide +kernel
theorem dX5_takersAt_10 : decode cX5_takersAt 10 = .ok (.invokevirtual 35, 3) := by decide +kernel
theorem dX5_takersAt_13 : decode cX5_takersAt 13 = .ok (.getfield 111, 3) := by decide +kernel
theorem dX5_takersAt_16 : decode cX5_takersAt 16 = .ok (.getfield 118, 3) := by decide +kernel
theorem dX5_takersAt_19 : decode cX5_takersAt 19 = .ok (.ireturn, 1) := by decide +kernel
theorem dX5_stateOf_0 : decode cX5_stateOf 0 = .ok (.aload_n 0, 1) := by decide +kernel
theorem dX5_stateOf_1 : decode cX5_stateOf 1 = .ok (.iload_n 1, 1) := by decide +kernel
theorem dX5_stateOf_2 : decode cX5_stateOf 2 = .ok (.invokevirtual 49, 3) := by decide +kernel
theorem dX5_stateOf_5 : decode cX5_stateOf 5 = .ok (.aload_n 0, 1) := by decide +kernel
theorem dX5_stateOf_6 : decode cX5_stateOf 6 = .ok (.getfield 10, 3) := by decide +kernel
theorem dX5_stateOf_9 : decode cX5_stateOf 9 = .ok (.iload_n 1, 1) := by decide +kernel
theorem dX5_stateOf_10 : decode cX5_stateOf 10 = .ok (.invokevirtual 59, 3) := by decide +kernel
theorem dX5_stateOf_13 : decode cX5_stateOf 13 = .ok (.getfield 80, 3) := by decide +kernel
theorem dX5_stateOf_16 : decode cX5_stateOf 16 = .ok (.ireturn, 1) := by decide +kernel
theorem dX5_placeOf_0 : decode cX5_placeOf 0 = .ok (.aload_n 0, 1) := by decide +kernel
theorem dX5_placeOf_1 : decode cX5_placeOf 1 = .ok (.iload_n 1, 1) := by decide +kernel
theorem dX5_placeOf_2 : decode cX5_placeOf 2 = .ok (.invokevirtual 49, 3) := by decide +kernel
theorem dX5_placeOf_5 : decode cX5_placeOf 5 = .ok (.aload_n 0, 1) := by decide +kernel
theorem dX5_placeOf_6 : decode cX5_placeOf 6 = .ok (.getfield 10, 3) := by decide +kernel
theorem dX5_placeOf_9 : decode cX5_placeOf 9 = .ok (.iload_n 1, 1) := by decide +kernel
theorem dX5_placeOf_10 : decode cX5_placeOf 10 = .ok (.invokevirtual 59, 3) := by decide +kernel
theorem dX5_placeOf_13 : decode cX5_placeOf 13 = .ok (.getfield 158, 3) := by decide +kernel
theorem dX5_placeOf_16 : decode cX5_placeOf 16 = .ok (.ireturn, 1) := by decide +kernel
theorem dX5_sumOf_0 : decode cX5_sumOf 0 = .ok (.aload_n 0, 1) := by decide +kernel
theorem dX5_sumOf_1 : decode cX5_sumOf 1 = .ok (.iload_n 1, 1) := by decide +kernel
theorem dX5_sumOf_2 : decode cX5_sumOf 2 = .ok (.invokevirtual 49, 3) := by decide +kernel
theorem dX5_sumOf_5 : decode cX5_sumOf 5 = .ok (.aload_n 0, 1) := by decide +kernel
theorem dX5_sumOf_6 : decode cX5_sumOf 6 = .ok (.getfield 10, 3) := by decide +kernel
theorem dX5_sumOf_9 : decode cX5_sumOf 9 = .ok (.iload_n 1, 1) := by decide +kernel
theorem dX5_sumOf_10 : decode cX5_sumOf 10 = .ok (.invokevirtual 59, 3) := by decide +kernel
theorem dX5_sumOf_13 : decode cX5_sumOf 13 = .ok (.getfield 161, 3) := by decide +kernel
theorem dX5_sumOf_16 : decode cX5_sumOf 16 = .ok (.ireturn, 1) := by decide +kernel
theorem dX5_stepsDone_0 : decode cX5_stepsDone 0 = .ok (.aload_n 0, 1) := by decide +kernel
theorem dX5_stepsDone_1 : decode cX5_stepsDone 1 = .ok (.iload_n 1, 1) := by decide +kernel
theorem dX5_stepsDone_2 : decode cX5_stepsDone 2 = .ok (.invokevirtual 49, 3) := by decide +kernel
theorem dX5_stepsDone_5 : decode cX5_stepsDone 5 = .ok (.aload_n 0, 1) := by decide +kernel
theorem dX5_stepsDone_6 : decode cX5_stepsDone 6 = .ok (.getfield 10, 3) := by decide +kernel
theorem dX5_stepsDone_9 : decode cX5_stepsDone 9 = .ok (.iload_n 1, 1) := by decide +kernel
theorem dX5_stepsDone_10 : decode cX5_stepsDone 10 = .ok (.invokevirtual 59, 3) := by decide +kernel
theorem dX5_stepsDone_13 : decode cX5_stepsDone 13 = .ok (.getfield 164, 3) := by decide +kernel
theorem dX5_stepsDone_16 : decode cX5_stepsDone 16 = .ok (.ireturn, 1) := by decide +kernel
theorem dX5_turnsOf_0 : decode cX5_turnsOf 0 = .ok (.aload_n 0, 1) := by decide +kernel
theorem dX5_turnsOf_1 : decode cX5_turnsOf 1 = .ok (.iload_n 1, 1) := by decide +kernel
theorem dX5_turnsOf_2 : decode cX5_turnsOf 2 = .ok (.invokevirtual 49, 3) := by decide +kernel
theorem dX5_turnsOf_5 : decode cX5_turnsOf 5 = .ok (.aload_n 0, 1) := by decide +kernel
theorem dX5_turnsOf_6 : decode cX5_turnsOf 6 = .ok (.getfield 10, 3) := by decide +kernel
theorem dX5_turnsOf_9 : decode cX5_turnsOf 9 = .ok (.iload_n 1, 1) := by decide +kernel
theorem dX5_turnsOf_10 : decode cX5_turnsOf 10 = .ok (.invokevirtual 59, 3) := by decide +kernel
theorem dX5_turnsOf_13 : decode cX5_turnsOf 13 = .ok (.getfield 167, 3) := by decide +kernel
theorem dX5_turnsOf_16 : decode cX5_turnsOf 16 = .ok (.ireturn, 1) := by decide +kernel
theorem dX5_placeInLine_0 : decode cX5_placeInLine 0 = .ok (.aload_n 0, 1) := by decide +kernel
theorem dX5_placeInLine_1 : decode cX5_placeInLine 1 = .ok (.iload_n 1, 1) := by decide +kernel
theorem dX5_placeInLine_2 : decode cX5_placeInLine 2 = .ok (.invokevirtual 49, 3) := by decide +kernel
theorem dX5_placeInLine_5 : decode cX5_placeInLine 5 = .ok (.aload_n 0, 1) := by decide +kernel
theorem dX5_placeInLine_6 : decode cX5_placeInLine 6 = .ok (.getfield 10, 3) := by decide +kernel
theorem dX5_placeInLine_9 : decode cX5_placeInLine 9 = .ok (.getfield 137, 3) := by decide +kernel
theorem dX5_placeInLine_12 : decode cX5_placeInLine 12 = .ok (.iload_n 1, 1) := by decide +kernel
theorem dX5_placeInLine_13 : decode cX5_placeInLine 13 = .ok (.invokevirtual 170, 3) := by decide +kernel
theorem dX5_placeInLine_16 : decode cX5_placeInLine 16 = .ok (.ireturn, 1) := by decide +kernel
theorem dX5_turnsUntilDone_0 : decode cX5_turnsUntilDone 0 = .ok (.aload_n 0, 1) := by decide +kernel
theorem dX5_turnsUntilDone_1 : decode cX5_turnsUntilDone 1 = .ok (.iload_n 1, 1) := by decide +kernel
theorem dX5_turnsUntilDone_2 : decode cX5_turnsUntilDone 2 = .ok (.invokevirtual 49, 3) := by decide +kernel
theorem dX5_turnsUntilDone_5 : decode cX5_turnsUntilDone 5 = .ok (.aload_n 0, 1) := by decide +kernel
theorem dX5_turnsUntilDone_6 : decode cX5_turnsUntilDone 6 = .ok (.getfield 16, 3) := by decide +kernel
theorem dX5_turnsUntilDone_9 : decode cX5_turnsUntilDone 9 = .ok (.aload_n 0, 1) := by decide +kernel
theorem dX5_turnsUntilDone_10 : decode cX5_turnsUntilDone 10 = .ok (.getfield 10, 3) := by decide +kernel
theorem dX5_turnsUntilDone_13 : decode cX5_turnsUntilDone 13 = .ok (.invokevirtual 173, 3) := by decide +kernel
theorem dX5_turnsUntilDone_16 : decode cX5_turnsUntilDone 16 = .ok (.aload_n 0, 1) := by decide +kernel
theorem dX5_turnsUntilDone_17 : decode cX5_turnsUntilDone 17 = .ok (.getfield 16, 3) := by decide +kernel
theorem dX5_turnsUntilDone_20 : decode cX5_turnsUntilDone 20 = .ok (.iload_n 1, 1) := by decide +kernel
theorem dX5_turnsUntilDone_21 : decode cX5_turnsUntilDone 21 = .ok (.invokevirtual 59, 3) := by decide +kernel
theorem dX5_turnsUntilDone_24 : decode cX5_turnsUntilDone 24 = .ok (.astore_n 2, 1) := by decide +kernel
theorem dX5_turnsUntilDone_25 : decode cX5_turnsUntilDone 25 = .ok (.iconst 0, 1) := by decide +kernel
theorem dX5_turnsUntilDone_26 : decode cX5_turnsUntilDone 26 = .ok (.istore_n 3, 1) := by decide +kernel
theorem dX5_turnsUntilDone_27 : decode cX5_turnsUntilDone 27 = .ok (.iload_n 3, 1) := by decide +kernel
theorem dX5_turnsUntilDone_28 : decode cX5_turnsUntilDone 28 = .ok (.sipush 200, 3) := by decide +kernel
theorem dX5_turnsUntilDone_31 : decode cX5_turnsUntilDone 31 = .ok (.if_icmp .ge 34, 3) := by decide +kernel
theorem dX5_turnsUntilDone_34 : decode cX5_turnsUntilDone 34 = .ok (.aload_n 2, 1) := by decide +kernel
theorem dX5_turnsUntilDone_35 : decode cX5_turnsUntilDone 35 = .ok (.getfield 80, 3) := by decide +kernel
theorem dX5_turnsUntilDone_38 : decode cX5_turnsUntilDone 38 = .ok (.iconst 5, 1) := by decide +kernel
theorem dX5_turnsUntilDone_39 : decode cX5_turnsUntilDone 39 = .ok (.if_icmp .eq 26, 3) := by decide +kernel
theorem dX5_turnsUntilDone_42 : decode cX5_turnsUntilDone 42 = .ok (.aload_n 0, 1) := by decide +kernel
theorem dX5_turnsUntilDone_43 : decode cX5_turnsUntilDone 43 = .ok (.getfield 16, 3) := by decide +kernel
theorem dX5_turnsUntilDone_46 : decode cX5_turnsUntilDone 46 = .ok (.invokevirtual 144, 3) := by decide +kernel
theorem dX5_turnsUntilDone_49 : decode cX5_turnsUntilDone 49 = .ok (.ifCond .ne 16, 3) := by decide +kernel
theorem dX5_turnsUntilDone_52 : decode cX5_turnsUntilDone 52 = .ok (.aload_n 0, 1) := by decide +kernel
theorem dX5_turnsUntilDone_53 : decode cX5_turnsUntilDone 53 = .ok (.getfield 16, 3) := by decide +kernel
theorem dX5_turnsUntilDone_56 : decode cX5_turnsUntilDone 56 = .ok (.invokevirtual 127, 3) := by decide +kernel
theorem dX5_turnsUntilDone_59 : decode cX5_turnsUntilDone 59 = .ok (.iinc 3 1, 3) := by decide +kernel
theorem dX5_turnsUntilDone_62 : decode cX5_turnsUntilDone 62 = .ok (.goto (-35), 3) := by decide +kernel
theorem dX5_turnsUntilDone_65 : decode cX5_turnsUntilDone 65 = .ok (.aload_n 2, 1) := by decide +kernel
theorem dX5_turnsUntilDone_66 : decode cX5_turnsUntilDone 66 = .ok (.getfield 80, 3) := by decide +kernel
theorem dX5_turnsUntilDone_69 : decode cX5_turnsUntilDone 69 = .ok (.iconst 5, 1) := by decide +kernel
theorem dX5_turnsUntilDone_70 : decode cX5_turnsUntilDone 70 = .ok (.if_icmp .ne 7, 3) := by decide +kernel
theorem dX5_turnsUntilDone_73 : decode cX5_turnsUntilDone 73 = .ok (.iload_n 3, 1) := by decide +kernel
theorem dX5_turnsUntilDone_74 : decode cX5_turnsUntilDone 74 = .ok (.goto 4, 3) := by decide +kernel
theorem dX5_turnsUntilDone_77 : decode cX5_turnsUntilDone 77 = .ok (.iconst (-1), 1) := by decide +kernel
theorem dX5_turnsUntilDone_78 : decode cX5_turnsUntilDone 78 = .ok (.ireturn, 1) := by decide +kernel
theorem dX5_turnsUntilStuck_0 : decode cX5_turnsUntilStuck 0 = .ok (.aload_n 0, 1) := by decide +kernel
theorem dX5_turnsUntilStuck_1 : decode cX5_turnsUntilStuck 1 = .ok (.getfield 16, 3) := by decide +kernel
theorem dX5_turnsUntilStuck_4 : decode cX5_turnsUntilStuck 4 = .ok (.aload_n 0, 1) := by decide +kernel
theorem dX5_turnsUntilStuck_5 : decode cX5_turnsUntilStuck 5 = .ok (.getfield 10, 3) := by decide +kernel
theorem dX5_turnsUntilStuck_8 : decode cX5_turnsUntilStuck 8 = .ok (.invokevirtual 173, 3) := by decide +kernel
theorem dX5_turnsUntilStuck_11 : decode cX5_turnsUntilStuck 11 = .ok (.iconst 0, 1) := by decide +kernel
theorem dX5_turnsUntilStuck_12 : decode cX5_turnsUntilStuck 12 = .ok (.istore_n 1, 1) := by decide +kernel
theorem dX5_turnsUntilStuck_13 : decode cX5_turnsUntilStuck 13 = .ok (.iload_n 1, 1) := by decide +kernel
theorem dX5_turnsUntilStuck_14 : decode cX5_turnsUntilStuck 14 = .ok (.sipush 200, 3) := by decide +kernel
theorem dX5_turnsUntilStuck_17 : decode cX5_turnsUntilStuck 17 = .ok (.if_icmp .ge 26, 3) := by decide +kernel
theorem dX5_turnsUntilStuck_20 : decode cX5_turnsUntilStuck 20 = .ok (.aload_n 0, 1) := by decide +kernel
theorem dX5_turnsUntilStuck_21 : decode cX5_turnsUntilStuck 21 = .ok (.getfield 16, 3) := by decide +kernel
theorem dX5_turnsUntilStuck_24 : decode cX5_turnsUntilStuck 24 = .ok (.invokevirtual 144, 3) := by decide +kernel
theorem dX5_turnsUntilStuck_27 : decode cX5_turnsUntilStuck 27 = .ok (.ifCond .ne 16, 3) := by decide +kernel
theorem dX5_turnsUntilStuck_30 : decode cX5_turnsUntilStuck 30 = .ok (.aload_n 0, 1) := by decide +kernel
theorem dX5_turnsUntilStuck_31 : decode cX5_turnsUntilStuck 31 = .ok (.getfield 16, 3) := by decide +kernel
theorem dX5_turnsUntilStuck_34 : decode cX5_turnsUntilStuck 34 = .ok (.invokevirtual 127, 3) := by decide +kernel
theorem dX5_turnsUntilStuck_37 : decode cX5_turnsUntilStuck 37 = .ok (.iinc 1 1, 3) := by decide +kernel
theorem dX5_turnsUntilStuck_40 : decode cX5_turnsUntilStuck 40 = .ok (.goto (-27), 3) := by decide +kernel
theorem dX5_turnsUntilStuck_43 : decode cX5_turnsUntilStuck 43 = .ok (.aload_n 0, 1) := by decide +kernel
theorem dX5_turnsUntilStuck_44 : decode cX5_turnsUntilStuck 44 = .ok (.getfield 16, 3) := by decide +kernel
theorem dX5_turnsUntilStuck_47 : decode cX5_turnsUntilStuck 47 = .ok (.invokevirtual 144, 3) := by decide +kernel
theorem dX5_turnsUntilStuck_50 : decode cX5_turnsUntilStuck 50 = .ok (.ifCond .eq 17, 3) := by decide +kernel
theorem dX5_turnsUntilStuck_53 : decode cX5_turnsUntilStuck 53 = .ok (.aload_n 0, 1) := by decide +kernel
theorem dX5_turnsUntilStuck_54 : decode cX5_turnsUntilStuck 54 = .ok (.getfield 16, 3) := by decide +kernel
theorem dX5_turnsUntilStuck_57 : decode cX5_turnsUntilStuck 57 = .ok (.invokevirtual 147, 3) := by decide +kernel
theorem dX5_turnsUntilStuck_60 : decode cX5_turnsUntilStuck 60 = .ok (.ifCond .ne 7, 3) := by decide +kernel
theorem dX5_turnsUntilStuck_63 : decode cX5_turnsUntilStuck 63 = .ok (.iload_n 1, 1) := by decide +kernel
theorem dX5_turnsUntilStuck_64 : decode cX5_turnsUntilStuck 64 = .ok (.goto 4, 3) := by decide +kernel
theorem dX5_turnsUntilStuck_67 : decode cX5_turnsUntilStuck 67 = .ok (.iconst (-1), 1) := by decide +kernel
theorem dX5_turnsUntilStuck_68 : decode cX5_turnsUntilStuck 68 = .ok (.ireturn, 1) := by decide +kernel
theorem dX5_sumIn_0 : decode cX5_sumIn 0 = .ok (.aload_n 0, 1) := by decide +kernel
theorem dX5_sumIn_1 : decode cX5_sumIn 1 = .ok (.iload_n 1, 1) := by decide +kernel
theorem dX5_sumIn_2 : decode cX5_sumIn 2 = .ok (.invokevirtual 49, 3) := by decide +kernel
theorem dX5_sumIn_5 : decode cX5_sumIn 5 = .ok (.aload_n 0, 1) := by decide +kernel
theorem dX5_sumIn_6 : decode cX5_sumIn 6 = .ok (.iload_n 2, 1) := by decide +kernel
theorem dX5_sumIn_7 : decode cX5_sumIn 7 = .ok (.invokevirtual 121, 3) := by decide +kernel
theorem dX5_sumIn_10 : decode cX5_sumIn 10 = .ok (.aload_n 0, 1) := by decide +kernel
theorem dX5_sumIn_11 : decode cX5_sumIn 11 = .ok (.getfield 16, 3) := by decide +kernel
theorem dX5_sumIn_14 : decode cX5_sumIn 14 = .ok (.aload_n 0, 1) := by decide +kernel
theorem dX5_sumIn_15 : decode cX5_sumIn 15 = .ok (.getfield 10, 3) := by decide +kernel
theorem dX5_sumIn_18 : decode cX5_sumIn 18 = .ok (.invokevirtual 173, 3) := by decide +kernel
theorem dX5_sumIn_21 : decode cX5_sumIn 21 = .ok (.iconst 0, 1) := by decide +kernel
theorem dX5_sumIn_22 : decode cX5_sumIn 22 = .ok (.istore_n 3, 1) := by decide +kernel
theorem dX5_sumIn_23 : decode cX5_sumIn 23 = .ok (.iload_n 3, 1) := by decide +kernel
theorem dX5_sumIn_24 : decode cX5_sumIn 24 = .ok (.iload_n 2, 1) := by decide +kernel
theorem dX5_sumIn_25 : decode cX5_sumIn 25 = .ok (.if_icmp .ge 16, 3) := by decide +kernel
theorem dX5_sumIn_28 : decode cX5_sumIn 28 = .ok (.aload_n 0, 1) := by decide +kernel
theorem dX5_sumIn_29 : decode cX5_sumIn 29 = .ok (.getfield 16, 3) := by decide +kernel
theorem dX5_sumIn_32 : decode cX5_sumIn 32 = .ok (.invokevirtual 127, 3) := by decide +kernel
theorem dX5_sumIn_35 : decode cX5_sumIn 35 = .ok (.iinc 3 1, 3) := by decide +kernel
theorem dX5_sumIn_38 : decode cX5_sumIn 38 = .ok (.goto (-15), 3) := by decide +kernel
theorem dX5_sumIn_41 : decode cX5_sumIn 41 = .ok (.aload_n 0, 1) := by decide +kernel
theorem dX5_sumIn_42 : decode cX5_sumIn 42 = .ok (.getfield 16, 3) := by decide +kernel
theorem dX5_sumIn_45 : decode cX5_sumIn 45 = .ok (.iload_n 1, 1) := by decide +kernel
theorem dX5_sumIn_46 : decode cX5_sumIn 46 = .ok (.invokevirtual 59, 3) := by decide +kernel
theorem dX5_sumIn_49 : decode cX5_sumIn 49 = .ok (.getfield 161, 3) := by decide +kernel
theorem dX5_sumIn_52 : decode cX5_sumIn 52 = .ok (.ireturn, 1) := by decide +kernel
theorem dX5_placesWanted_0 : decode cX5_placesWanted 0 = .ok (.aload_n 0, 1) := by decide +kernel
theorem dX5_placesWanted_1 : decode cX5_placesWanted 1 = .ok (.iload_n 1, 1) := by decide +kernel
theorem dX5_placesWanted_2 : decode cX5_placesWanted 2 = .ok (.invokevirtual 87, 3) := by decide +kernel
theorem dX5_placesWanted_5 : decode cX5_placesWanted 5 = .ok (.aload_n 0, 1) := by decide +kernel
theorem dX5_placesWanted_6 : decode cX5_placesWanted 6 = .ok (.getfield 10, 3) := by decide +kernel
theorem dX5_placesWanted_9 : decode cX5_placesWanted 9 = .ok (.iload_n 1, 1) := by decide +kernel
theorem dX5_placesWanted_10 : decode cX5_placesWanted 10 = .ok (.invokevirtual 35, 3) := by decide +kernel
theorem dX5_placesWanted_13 : decode cX5_placesWanted 13 = .ok (.getfield 39, 3) := by decide +kernel
theorem dX5_placesWanted_16 : decode cX5_placesWanted 16 = .ok (.istore_n 2, 1) := by decide +kernel
theorem dX5_placesWanted_17 : decode cX5_placesWanted 17 = .ok (.iload_n 2, 1) := by decide +kernel
theorem dX5_placesWanted_18 : decode cX5_placesWanted 18 = .ok (.bipush 8, 2) := by decide +kernel
theorem dX5_placesWanted_20 : decode cX5_placesWanted 20 = .ok (.if_icmp .gt 75, 3) := by decide +kernel
theorem dX5_placesWanted_23 : decode cX5_placesWanted 23 = .ok (.aload_n 0, 1) := by decide +kernel
theorem dX5_placesWanted_24 : decode cX5_placesWanted 24 = .ok (.getfield 16, 3) := by decide +kernel
theorem dX5_placesWanted_27 : decode cX5_placesWanted 27 = .ok (.aload_n 0, 1) := by decide +kernel
theorem dX5_placesWanted_28 : decode cX5_placesWanted 28 = .ok (.getfield 10, 3) := by decide +kernel
theorem dX5_placesWanted_31 : decode cX5_placesWanted 31 = .ok (.invokevirtual 173, 3) := by decide +kernel
theorem dX5_placesWanted_34 : decode cX5_placesWanted 34 = .ok (.aload_n 0, 1) := by decide +kernel
theorem dX5_placesWanted_35 : decode cX5_placesWanted 35 = .ok (.getfield 16, 3) := by decide +kernel
theorem dX5_placesWanted_38 : decode cX5_placesWanted 38 = .ok (.iload_n 1, 1) := by decide +kernel
theorem dX5_placesWanted_39 : decode cX5_placesWanted 39 = .ok (.invokevirtual 35, 3) := by decide +kernel
theorem dX5_placesWanted_42 : decode cX5_placesWanted 42 = .ok (.iload_n 2, 1) := by decide +kernel
theorem dX5_placesWanted_43 : decode cX5_placesWanted 43 = .ok (.putfield 39, 3) := by decide +kernel
theorem dX5_placesWanted_46 : decode cX5_placesWanted 46 = .ok (.iconst 0, 1) := by decide +kernel
theorem dX5_placesWanted_47 : decode cX5_placesWanted 47 = .ok (.istore_n 3, 1) := by decide +kernel
theorem dX5_placesWanted_48 : decode cX5_placesWanted 48 = .ok (.iload_n 3, 1) := by decide +kernel
theorem dX5_placesWanted_49 : decode cX5_placesWanted 49 = .ok (.bipush 100, 2) := by decide +kernel
theorem dX5_placesWanted_51 : decode cX5_placesWanted 51 = .ok (.if_icmp .ge 26, 3) := by decide +kernel
theorem dX5_placesWanted_54 : decode cX5_placesWanted 54 = .ok (.aload_n 0, 1) := by decide +kernel
theorem dX5_placesWanted_55 : decode cX5_placesWanted 55 = .ok (.getfield 16, 3) := by decide +kernel
theorem dX5_placesWanted_58 : decode cX5_placesWanted 58 = .ok (.invokevirtual 144, 3) := by decide +kernel
theorem dX5_placesWanted_61 : decode cX5_placesWanted 61 = .ok (.ifCond .ne 16, 3) := by decide +kernel
theorem dX5_placesWanted_64 : decode cX5_placesWanted 64 = .ok (.aload_n 0, 1) := by decide +kernel
theorem dX5_placesWanted_65 : decode cX5_placesWanted 65 = .ok (.getfield 16, 3) := by decide +kernel
theorem dX5_placesWanted_68 : decode cX5_placesWanted 68 = .ok (.invokevirtual 127, 3) := by decide +kernel
theorem dX5_placesWanted_71 : decode cX5_placesWanted 71 = .ok (.iinc 3 1, 3) := by decide +kernel
theorem dX5_placesWanted_74 : decode cX5_placesWanted 74 = .ok (.goto (-26), 3) := by decide +kernel
theorem dX5_placesWanted_77 : decode cX5_placesWanted 77 = .ok (.aload_n 0, 1) := by decide +kernel
theorem dX5_placesWanted_78 : decode cX5_placesWanted 78 = .ok (.getfield 16, 3) := by decide +kernel
theorem dX5_placesWanted_81 : decode cX5_placesWanted 81 = .ok (.invokevirtual 147, 3) := by decide +kernel
theorem dX5_placesWanted_84 : decode cX5_placesWanted 84 = .ok (.ifCond .eq 5, 3) := by decide +kernel
theorem dX5_placesWanted_87 : decode cX5_placesWanted 87 = .ok (.iload_n 2, 1) := by decide +kernel
theorem dX5_placesWanted_88 : decode cX5_placesWanted 88 = .ok (.ireturn, 1) := by decide +kernel
theorem dX5_placesWanted_89 : decode cX5_placesWanted 89 = .ok (.iinc 2 1, 3) := by decide +kernel
theorem dX5_placesWanted_92 : decode cX5_placesWanted 92 = .ok (.goto (-75), 3) := by decide +kernel
theorem dX5_placesWanted_95 : decode cX5_placesWanted 95 = .ok (.iconst (-1), 1) := by decide +kernel
theorem dX5_placesWanted_96 : decode cX5_placesWanted 96 = .ok (.ireturn, 1) := by decide +kernel
theorem dX5_meanTurns_0 : decode cX5_meanTurns 0 = .ok (.aload_n 0, 1) := by decide +kernel
theorem dX5_meanTurns_1 : decode cX5_meanTurns 1 = .ok (.getfield 10, 3) := by decide +kernel
theorem dX5_meanTurns_4 : decode cX5_meanTurns 4 = .ok (.getfield 44, 3) := by decide +kernel
theorem dX5_meanTurns_7 : decode cX5_meanTurns 7 = .ok (.ifCond .gt 5, 3) := by decide +kernel
theorem dX5_meanTurns_10 : decode cX5_meanTurns 10 = .ok (.dconst 0, 1) := by decide +kernel
theorem dX5_meanTurns_11 : decode cX5_meanTurns 11 = .ok (.dreturn, 1) := by decide +kernel
theorem dX5_meanTurns_12 : decode cX5_meanTurns 12 = .ok (.iconst 0, 1) := by decide +kernel
theorem dX5_meanTurns_13 : decode cX5_meanTurns 13 = .ok (.istore_n 1, 1) := by decide +kernel
theorem dX5_meanTurns_14 : decode cX5_meanTurns 14 = .ok (.iconst 0, 1) := by decide +kernel
theorem dX5_meanTurns_15 : decode cX5_meanTurns 15 = .ok (.istore_n 2, 1) := by decide +kernel
theorem dX5_meanTurns_16 : decode cX5_meanTurns 16 = .ok (.iload_n 2, 1) := by decide +kernel
theorem dX5_meanTurns_17 : decode cX5_meanTurns 17 = .ok (.aload_n 0, 1) := by decide +kernel
theorem dX5_meanTurns_18 : decode cX5_meanTurns 18 = .ok (.getfield 10, 3) := by decide +kernel
theorem dX5_meanTurns_21 : decode cX5_meanTurns 21 = .ok (.getfield 44, 3) := by decide +kernel
theorem dX5_meanTurns_24 : decode cX5_meanTurns 24 = .ok (.if_icmp .ge 23, 3) := by decide +kernel
theorem dX5_meanTurns_27 : decode cX5_meanTurns 27 = .ok (.iload_n 1, 1) := by decide +kernel
theorem dX5_meanTurns_28 : decode cX5_meanTurns 28 = .ok (.aload_n 0, 1) := by decide +kernel
theorem dX5_meanTurns_29 : decode cX5_meanTurns 29 = .ok (.getfield 10, 3) := by decide +kernel
theorem dX5_meanTurns_32 : decode cX5_meanTurns 32 = .ok (.iload_n 2, 1) := by decide +kernel
theorem dX5_meanTurns_33 : decode cX5_meanTurns 33 = .ok (.invokevirtual 59, 3) := by decide +kernel
theorem dX5_meanTurns_36 : decode cX5_meanTurns 36 = .ok (.getfield 167, 3) := by decide +kernel
theorem dX5_meanTurns_39 : decode cX5_meanTurns 39 = .ok (.iadd, 1) := by decide +kernel
theorem dX5_meanTurns_40 : decode cX5_meanTurns 40 = .ok (.istore_n 1, 1) := by decide +kernel
theorem dX5_meanTurns_41 : decode cX5_meanTurns 41 = .ok (.iinc 2 1, 3) := by decide +kernel
theorem dX5_meanTurns_44 : decode cX5_meanTurns 44 = .ok (.goto (-28), 3) := by decide +kernel
theorem dX5_meanTurns_47 : decode cX5_meanTurns 47 = .ok (.iload_n 1, 1) := by decide +kernel
theorem dX5_meanTurns_48 : decode cX5_meanTurns 48 = .ok (.i2d, 1) := by decide +kernel
theorem dX5_meanTurns_49 : decode cX5_meanTurns 49 = .ok (.aload_n 0, 1) := by decide +kernel
theorem dX5_meanTurns_50 : decode cX5_meanTurns 50 = .ok (.getfield 10, 3) := by decide +kernel
theorem dX5_meanTurns_53 : decode cX5_meanTurns 53 = .ok (.getfield 44, 3) := by decide +kernel
theorem dX5_meanTurns_56 : decode cX5_meanTurns 56 = .ok (.i2d, 1) := by decide +kernel
theorem dX5_meanTurns_57 : decode cX5_meanTurns 57 = .ok (.ddiv, 1) := by decide +kernel
theorem dX5_meanTurns_58 : decode cX5_meanTurns 58 = .ok (.dreturn, 1) := by decide +kernel
theorem dX5_digest_0 : decode cX5_digest 0 = .ok (.ldc2_w 177, 3) := by decide +kernel
theorem dX5_digest_3 : decode cX5_digest 3 = .ok (.lstore_n 1, 1) := by decide +kernel
theorem dX5_digest_4 : decode cX5_digest 4 = .ok (.lload_n 1, 1) := by decide +kernel
theorem dX5_digest_5 : decode cX5_digest 5 = .ok (.ldc2_w 179, 3) := by decide +kernel
theorem dX5_digest_8 : decode cX5_digest 8 = .ok (.lmul, 1) := by decide +kernel
theorem dX5_digest_9 : decode cX5_digest 9 = .ok (.aload_n 0, 1) := by decide +kernel
theorem dX5_digest_10 : decode cX5_digest 10 = .ok (.invokevirtual 181, 3) := by decide +kernel
theorem dX5_digest_13 : decode cX5_digest 13 = .ok (.i2l, 1) := by decide +kernel
theorem dX5_digest_14 : decode cX5_digest 14 = .ok (.ladd, 1) := by decide +kernel
theorem dX5_digest_15 : decode cX5_digest 15 = .ok (.lstore_n 1, 1) := by decide +kernel
theorem dX5_digest_16 : decode cX5_digest 16 = .ok (.lload_n 1, 1) := by decide +kernel
theorem dX5_digest_17 : decode cX5_digest 17 = .ok (.ldc2_w 179, 3) := by decide +kernel
theorem dX5_digest_20 : decode cX5_digest 20 = .ok (.lmul, 1) := by decide +kernel
theorem dX5_digest_21 : decode cX5_digest 21 = .ok (.aload_n 0, 1) := by decide +kernel
theorem dX5_digest_22 : decode cX5_digest 22 = .ok (.invokevirtual 184, 3) := by decide +kernel
theorem dX5_digest_25 : decode cX5_digest 25 = .ok (.i2l, 1) := by decide +kernel
theorem dX5_digest_26 : decode cX5_digest 26 = .ok (.ladd, 1) := by decide +kernel
theorem dX5_digest_27 : decode cX5_digest 27 = .ok (.lstore_n 1, 1) := by decide +kernel
theorem dX5_digest_28 : decode cX5_digest 28 = .ok (.lload_n 1, 1) := by decide +kernel
theorem dX5_digest_29 : decode cX5_digest 29 = .ok (.ldc2_w 179, 3) := by decide +kernel
theorem dX5_digest_32 : decode cX5_digest 32 = .ok (.lmul, 1) := by decide +kernel
theorem dX5_digest_33 : decode cX5_digest 33 = .ok (.aload_n 0, 1) := by decide +kernel
theorem dX5_digest_34 : decode cX5_digest 34 = .ok (.invokevirtual 187, 3) := by decide +kernel
theorem dX5_digest_37 : decode cX5_digest 37 = .ok (.i2l, 1) := by decide +kernel
theorem dX5_digest_38 : decode cX5_digest 38 = .ok (.ladd, 1) := by decide +kernel
theorem dX5_digest_39 : decode cX5_digest 39 = .ok (.lstore_n 1, 1) := by decide +kernel
theorem dX5_digest_40 : decode cX5_digest 40 = .ok (.lload_n 1, 1) := by decide +kernel
theorem dX5_digest_41 : decode cX5_digest 41 = .ok (.ldc2_w 179, 3) := by decide +kernel
theorem dX5_digest_44 : decode cX5_digest 44 = .ok (.lmul, 1) := by decide +kernel
theorem dX5_digest_45 : decode cX5_digest 45 = .ok (.aload_n 0, 1) := by decide +kernel
theorem dX5_digest_46 : decode cX5_digest 46 = .ok (.invokevirtual 190, 3) := by decide +kernel
theorem dX5_digest_49 : decode cX5_digest 49 = .ok (.i2l, 1) := by decide +kernel
theorem dX5_digest_50 : decode cX5_digest 50 = .ok (.ladd, 1) := by decide +kernel
theorem dX5_digest_51 : decode cX5_digest 51 = .ok (.lstore_n 1, 1) := by decide +kernel
theorem dX5_digest_52 : decode cX5_digest 52 = .ok (.lload_n 1, 1) := by decide +kernel
theorem dX5_digest_53 : decode cX5_digest 53 = .ok (.ldc2_w 179, 3) := by decide +kernel
theorem dX5_digest_56 : decode cX5_digest 56 = .ok (.lmul, 1) := by decide +kernel
theorem dX5_digest_57 : decode cX5_digest 57 = .ok (.aload_n 0, 1) := by decide +kernel
theorem dX5_digest_58 : decode cX5_digest 58 = .ok (.invokevirtual 193, 3) := by decide +kernel
theorem dX5_digest_61 : decode cX5_digest 61 = .ok (.i2l, 1) := by decide +kernel
theorem dX5_digest_62 : decode cX5_digest 62 = .ok (.ladd, 1) := by decide +kernel
theorem dX5_digest_63 : decode cX5_digest 63 = .ok (.lstore_n 1, 1) := by decide +kernel
theorem dX5_digest_64 : decode cX5_digest 64 = .ok (.lload_n 1, 1) := by decide +kernel
theorem dX5_digest_65 : decode cX5_digest 65 = .ok (.ldc2_w 179, 3) := by decide +kernel
theorem dX5_digest_68 : decode cX5_digest 68 = .ok (.lmul, 1) := by decide +kernel
theorem dX5_digest_69 : decode cX5_digest 69 = .ok (.aload_n 0, 1) := by decide +kernel
theorem dX5_digest_70 : decode cX5_digest 70 = .ok (.invokevirtual 196, 3) := by decide +kernel
theorem dX5_digest_73 : decode cX5_digest 73 = .ok (.i2l, 1) := by decide +kernel
theorem dX5_digest_74 : decode cX5_digest 74 = .ok (.ladd, 1) := by decide +kernel
theorem dX5_digest_75 : decode cX5_digest 75 = .ok (.lstore_n 1, 1) := by decide +kernel
theorem dX5_digest_76 : decode cX5_digest 76 = .ok (.lload_n 1, 1) := by decide +kernel
theorem dX5_digest_77 : decode cX5_digest 77 = .ok (.ldc2_w 179, 3) := by decide +kernel
theorem dX5_digest_80 : decode cX5_digest 80 = .ok (.lmul, 1) := by decide +kernel
theorem dX5_digest_81 : decode cX5_digest 81 = .ok (.aload_n 0, 1) := by decide +kernel
theorem dX5_digest_82 : decode cX5_digest 82 = .ok (.invokevirtual 199, 3) := by decide +kernel
theorem dX5_digest_85 : decode cX5_digest 85 = .ok (.ifCond .eq 7, 3) := by decide +kernel
theorem dX5_digest_88 : decode cX5_digest 88 = .ok (.iconst 1, 1) := by decide +kernel
theorem dX5_digest_89 : decode cX5_digest 89 = .ok (.goto 4, 3) := by decide +kernel
theorem dX5_digest_92 : decode cX5_digest 92 = .ok (.iconst 0, 1) := by decide +kernel
theorem dX5_digest_93 : decode cX5_digest 93 = .ok (.i2l, 1) := by decide +kernel
theorem dX5_digest_94 : decode cX5_digest 94 = .ok (.ladd, 1) := by decide +kernel
theorem dX5_digest_95 : decode cX5_digest 95 = .ok (.lstore_n 1, 1) := by decide +kernel
theorem dX5_digest_96 : decode cX5_digest 96 = .ok (.lload_n 1, 1) := by decide +kernel
theorem dX5_digest_97 : decode cX5_digest 97 = .ok (.ldc2_w 179, 3) := by decide +kernel
theorem dX5_digest_100 : decode cX5_digest 100 = .ok (.lmul, 1) := by decide +kernel
theorem dX5_digest_101 : decode cX5_digest 101 = .ok (.aload_n 0, 1) := by decide +kernel
theorem dX5_digest_102 : decode cX5_digest 102 = .ok (.invokevirtual 202, 3) := by decide +kernel
theorem dX5_digest_105 : decode cX5_digest 105 = .ok (.i2l, 1) := by decide +kernel
theorem dX5_digest_106 : decode cX5_digest 106 = .ok (.ladd, 1) := by decide +kernel
theorem dX5_digest_107 : decode cX5_digest 107 = .ok (.lstore_n 1, 1) := by decide +kernel
theorem dX5_digest_108 : decode cX5_digest 108 = .ok (.iconst 0, 1) := by decide +kernel
theorem dX5_digest_109 : decode cX5_digest 109 = .ok (.istore_n 3, 1) := by decide +kernel
theorem dX5_digest_110 : decode cX5_digest 110 = .ok (.iload_n 3, 1) := by decide +kernel
theorem dX5_digest_111 : decode cX5_digest 111 = .ok (.aload_n 0, 1) := by decide +kernel
theorem dX5_digest_112 : decode cX5_digest 112 = .ok (.invokevirtual 184, 3) := by decide +kernel
theorem dX5_digest_115 : decode cX5_digest 115 = .ok (.if_icmp .ge 95, 3) := by decide +kernel
theorem dX5_digest_118 : decode cX5_digest 118 = .ok (.lload_n 1, 1) := by decide +kernel
theorem dX5_digest_119 : decode cX5_digest 119 = .ok (.ldc2_w 179, 3) := by decide +kernel
theorem dX5_digest_122 : decode cX5_digest 122 = .ok (.lmul, 1) := by decide +kernel
theorem dX5_digest_123 : decode cX5_digest 123 = .ok (.aload_n 0, 1) := by decide +kernel
theorem dX5_digest_124 : decode cX5_digest 124 = .ok (.iload_n 3, 1) := by decide +kernel
theorem dX5_digest_125 : decode cX5_digest 125 = .ok (.invokevirtual 205, 3) := by decide +kernel
theorem dX5_digest_128 : decode cX5_digest 128 = .ok (.i2l, 1) := by decide +kernel
theorem dX5_digest_129 : decode cX5_digest 129 = .ok (.ladd, 1) := by decide +kernel
theorem dX5_digest_130 : decode cX5_digest 130 = .ok (.lstore_n 1, 1) := by decide +kernel
theorem dX5_digest_131 : decode cX5_digest 131 = .ok (.iconst 0, 1) := by decide +kernel
theorem dX5_digest_132 : decode cX5_digest 132 = .ok (.istore 4, 2) := by decide +kernel
theorem dX5_digest_134 : decode cX5_digest 134 = .ok (.iload 4, 2) := by decide +kernel
theorem dX5_digest_136 : decode cX5_digest 136 = .ok (.aload_n 0, 1) := by decide +kernel
theorem dX5_digest_137 : decode cX5_digest 137 = .ok (.iload_n 3, 1) := by decide +kernel
theorem dX5_digest_138 : decode cX5_digest 138 = .ok (.invokevirtual 205, 3) := by decide +kernel
theorem dX5_digest_141 : decode cX5_digest 141 = .ok (.if_icmp .ge 24, 3) := by decide +kernel
theorem dX5_digest_144 : decode cX5_digest 144 = .ok (.lload_n 1, 1) := by decide +kernel
theorem dX5_digest_145 : decode cX5_digest 145 = .ok (.ldc2_w 179, 3) := by decide +kernel
theorem dX5_digest_148 : decode cX5_digest 148 = .ok (.lmul, 1) := by decide +kernel
theorem dX5_digest_149 : decode cX5_digest 149 = .ok (.aload_n 0, 1) := by decide +kernel
theorem dX5_digest_150 : decode cX5_digest 150 = .ok (.iload_n 3, 1) := by decide +kernel
theorem dX5_digest_151 : decode cX5_digest 151 = .ok (.iload 4, 2) := by decide +kernel
theorem dX5_digest_153 : decode cX5_digest 153 = .ok (.invokevirtual 208, 3) := by decide +kernel
theorem dX5_digest_156 : decode cX5_digest 156 = .ok (.i2l, 1) := by decide +kernel
theorem dX5_digest_157 : decode cX5_digest 157 = .ok (.ladd, 1) := by decide +kernel
theorem dX5_digest_158 : decode cX5_digest 158 = .ok (.lstore_n 1, 1) := by decide +kernel
theorem dX5_digest_159 : decode cX5_digest 159 = .ok (.iinc 4 1, 3) := by decide +kernel
theorem dX5_digest_162 : decode cX5_digest 162 = .ok (.goto (-28), 3) := by decide +kernel
theorem dX5_digest_165 : decode cX5_digest 165 = .ok (.lload_n 1, 1) := by decide +kernel
theorem dX5_digest_166 : decode cX5_digest 166 = .ok (.ldc2_w 179, 3) := by decide +kernel
theorem dX5_digest_169 : decode cX5_digest 169 = .ok (.lmul, 1) := by decide +kernel
theorem dX5_digest_170 : decode cX5_digest 170 = .ok (.aload_n 0, 1) := by decide +kernel
theorem dX5_digest_171 : decode cX5_digest 171 = .ok (.iload_n 3, 1) := by decide +kernel
theorem dX5_digest_172 : decode cX5_digest 172 = .ok (.invokevirtual 212, 3) := by decide +kernel
theorem dX5_digest_175 : decode cX5_digest 175 = .ok (.i2l, 1) := by decide +kernel
theorem dX5_digest_176 : decode cX5_digest 176 = .ok (.ladd, 1) := by decide +kernel
theorem dX5_digest_177 : decode cX5_digest 177 = .ok (.lstore_n 1, 1) := by decide +kernel
theorem dX5_digest_178 : decode cX5_digest 178 = .ok (.lload_n 1, 1) := by decide +kernel
theorem dX5_digest_179 : decode cX5_digest 179 = .ok (.ldc2_w 179, 3) := by decide +kernel
theorem dX5_digest_182 : decode cX5_digest 182 = .ok (.lmul, 1) := by decide +kernel
theorem dX5_digest_183 : decode cX5_digest 183 = .ok (.aload_n 0, 1) := by decide +kernel
theorem dX5_digest_184 : decode cX5_digest 184 = .ok (.iload_n 3, 1) := by decide +kernel
theorem dX5_digest_185 : decode cX5_digest 185 = .ok (.invokevirtual 215, 3) := by decide +kernel
theorem dX5_digest_188 : decode cX5_digest 188 = .ok (.i2l, 1) := by decide +kernel
theorem dX5_digest_189 : decode cX5_digest 189 = .ok (.ladd, 1) := by decide +kernel
theorem dX5_digest_190 : decode cX5_digest 190 = .ok (.lstore_n 1, 1) := by decide +kernel
theorem dX5_digest_191 : decode cX5_digest 191 = .ok (.lload_n 1, 1) := by decide +kernel
theorem dX5_digest_192 : decode cX5_digest 192 = .ok (.ldc2_w 179, 3) := by decide +kernel
theorem dX5_digest_195 : decode cX5_digest 195 = .ok (.lmul, 1) := by decide +kernel
theorem dX5_digest_196 : decode cX5_digest 196 = .ok (.aload_n 0, 1) := by decide +kernel
theorem dX5_digest_197 : decode cX5_digest 197 = .ok (.iload_n 3, 1) := by decide +kernel
theorem dX5_digest_198 : decode cX5_digest 198 = .ok (.invokevirtual 218, 3) := by decide +kernel
theorem dX5_digest_201 : decode cX5_digest 201 = .ok (.i2l, 1) := by decide +kernel
theorem dX5_digest_202 : decode cX5_digest 202 = .ok (.ladd, 1) := by decide +kernel
theorem dX5_digest_203 : decode cX5_digest 203 = .ok (.lstore_n 1, 1) := by decide +kernel
theorem dX5_digest_204 : decode cX5_digest 204 = .ok (.iinc 3 1, 3) := by decide +kernel
theorem dX5_digest_207 : decode cX5_digest 207 = .ok (.goto (-97), 3) := by decide +kernel
theorem dX5_digest_210 : decode cX5_digest 210 = .ok (.iconst 0, 1) := by decide +kernel
theorem dX5_digest_211 : decode cX5_digest 211 = .ok (.istore_n 3, 1) := by decide +kernel
theorem dX5_digest_212 : decode cX5_digest 212 = .ok (.iload_n 3, 1) := by decide +kernel
theorem dX5_digest_213 : decode cX5_digest 213 = .ok (.aload_n 0, 1) := by decide +kernel
theorem dX5_digest_214 : decode cX5_digest 214 = .ok (.invokevirtual 187, 3) := by decide +kernel
theorem dX5_digest_217 : decode cX5_digest 217 = .ok (.if_icmp .ge 100, 3) := by decide +kernel
theorem dX5_digest_220 : decode cX5_digest 220 = .ok (.lload_n 1, 1) := by decide +kernel
theorem dX5_digest_221 : decode cX5_digest 221 = .ok (.ldc2_w 179, 3) := by decide +kernel
theorem dX5_digest_224 : decode cX5_digest 224 = .ok (.lmul, 1) := by decide +kernel
theorem dX5_digest_225 : decode cX5_digest 225 = .ok (.aload_n 0, 1) := by decide +kernel
theorem dX5_digest_226 : decode cX5_digest 226 = .ok (.iload_n 3, 1) := by decide +kernel
theorem dX5_digest_227 : decode cX5_digest 227 = .ok (.invokevirtual 221, 3) := by decide +kernel
theorem dX5_digest_230 : decode cX5_digest 230 = .ok (.i2l, 1) := by decide +kernel
theorem dX5_digest_231 : decode cX5_digest 231 = .ok (.ladd, 1) := by decide +kernel
theorem dX5_digest_232 : decode cX5_digest 232 = .ok (.lstore_n 1, 1) := by decide +kernel
theorem dX5_digest_233 : decode cX5_digest 233 = .ok (.lload_n 1, 1) := by decide +kernel
theorem dX5_digest_234 : decode cX5_digest 234 = .ok (.ldc2_w 179, 3) := by decide +kernel
theorem dX5_digest_237 : decode cX5_digest 237 = .ok (.lmul, 1) := by decide +kernel
theorem dX5_digest_238 : decode cX5_digest 238 = .ok (.aload_n 0, 1) := by decide +kernel
theorem dX5_digest_239 : decode cX5_digest 239 = .ok (.iload_n 3, 1) := by decide +kernel
theorem dX5_digest_240 : decode cX5_digest 240 = .ok (.invokevirtual 224, 3) := by decide +kernel
theorem dX5_digest_243 : decode cX5_digest 243 = .ok (.i2l, 1) := by decide +kernel
theorem dX5_digest_244 : decode cX5_digest 244 = .ok (.ladd, 1) := by decide +kernel
theorem dX5_digest_245 : decode cX5_digest 245 = .ok (.lstore_n 1, 1) := by decide +kernel
theorem dX5_digest_246 : decode cX5_digest 246 = .ok (.lload_n 1, 1) := by decide +kernel
theorem dX5_digest_247 : decode cX5_digest 247 = .ok (.ldc2_w 179, 3) := by decide +kernel
theorem dX5_digest_250 : decode cX5_digest 250 = .ok (.lmul, 1) := by decide +kernel
theorem dX5_digest_251 : decode cX5_digest 251 = .ok (.aload_n 0, 1) := by decide +kernel
theorem dX5_digest_252 : decode cX5_digest 252 = .ok (.iload_n 3, 1) := by decide +kernel
theorem dX5_digest_253 : decode cX5_digest 253 = .ok (.invokevirtual 227, 3) := by decide +kernel
theorem dX5_digest_256 : decode cX5_digest 256 = .ok (.i2l, 1) := by decide +kernel
theorem dX5_digest_257 : decode cX5_digest 257 = .ok (.ladd, 1) := by decide +kernel
theorem dX5_digest_258 : decode cX5_digest 258 = .ok (.lstore_n 1, 1) := by decide +kernel
theorem dX5_digest_259 : decode cX5_digest 259 = .ok (.lload_n 1, 1) := by decide +kernel
theorem dX5_digest_260 : decode cX5_digest 260 = .ok (.ldc2_w 179, 3) := by decide +kernel
theorem dX5_digest_263 : decode cX5_digest 263 = .ok (.lmul, 1) := by decide +kernel
theorem dX5_digest_264 : decode cX5_digest 264 = .ok (.aload_n 0, 1) := by decide +kernel
theorem dX5_digest_265 : decode cX5_digest 265 = .ok (.iload_n 3, 1) := by decide +kernel
theorem dX5_digest_266 : decode cX5_digest 266 = .ok (.invokevirtual 230, 3) := by decide +kernel
theorem dX5_digest_269 : decode cX5_digest 269 = .ok (.i2l, 1) := by decide +kernel
theorem dX5_digest_270 : decode cX5_digest 270 = .ok (.ladd, 1) := by decide +kernel
theorem dX5_digest_271 : decode cX5_digest 271 = .ok (.lstore_n 1, 1) := by decide +kernel
theorem dX5_digest_272 : decode cX5_digest 272 = .ok (.lload_n 1, 1) := by decide +kernel
theorem dX5_digest_273 : decode cX5_digest 273 = .ok (.ldc2_w 179, 3) := by decide +kernel
theorem dX5_digest_276 : decode cX5_digest 276 = .ok (.lmul, 1) := by decide +kernel
theorem dX5_digest_277 : decode cX5_digest 277 = .ok (.aload_n 0, 1) := by decide +kernel
theorem dX5_digest_278 : decode cX5_digest 278 = .ok (.iload_n 3, 1) := by decide +kernel
theorem dX5_digest_279 : decode cX5_digest 279 = .ok (.invokevirtual 233, 3) := by decide +kernel
theorem dX5_digest_282 : decode cX5_digest 282 = .ok (.i2l, 1) := by decide +kernel
theorem dX5_digest_283 : decode cX5_digest 283 = .ok (.ladd, 1) := by decide +kernel
theorem dX5_digest_284 : decode cX5_digest 284 = .ok (.lstore_n 1, 1) := by decide +kernel
theorem dX5_digest_285 : decode cX5_digest 285 = .ok (.lload_n 1, 1) := by decide +kernel
theorem dX5_digest_286 : decode cX5_digest 286 = .ok (.ldc2_w 179, 3) := by decide +kernel
theorem dX5_digest_289 : decode cX5_digest 289 = .ok (.lmul, 1) := by decide +kernel
theorem dX5_digest_290 : decode cX5_digest 290 = .ok (.aload_n 0, 1) := by decide +kernel
theorem dX5_digest_291 : decode cX5_digest 291 = .ok (.iload_n 3, 1) := by decide +kernel
theorem dX5_digest_292 : decode cX5_digest 292 = .ok (.invokevirtual 236, 3) := by decide +kernel
theorem dX5_digest_295 : decode cX5_digest 295 = .ok (.i2l, 1) := by decide +kernel
theorem dX5_digest_296 : decode cX5_digest 296 = .ok (.ladd, 1) := by decide +kernel
theorem dX5_digest_297 : decode cX5_digest 297 = .ok (.lstore_n 1, 1) := by decide +kernel
theorem dX5_digest_298 : decode cX5_digest 298 = .ok (.lload_n 1, 1) := by decide +kernel
theorem dX5_digest_299 : decode cX5_digest 299 = .ok (.ldc2_w 179, 3) := by decide +kernel
theorem dX5_digest_302 : decode cX5_digest 302 = .ok (.lmul, 1) := by decide +kernel
theorem dX5_digest_303 : decode cX5_digest 303 = .ok (.aload_n 0, 1) := by decide +kernel
theorem dX5_digest_304 : decode cX5_digest 304 = .ok (.iload_n 3, 1) := by decide +kernel
theorem dX5_digest_305 : decode cX5_digest 305 = .ok (.invokevirtual 239, 3) := by decide +kernel
theorem dX5_digest_308 : decode cX5_digest 308 = .ok (.i2l, 1) := by decide +kernel
theorem dX5_digest_309 : decode cX5_digest 309 = .ok (.ladd, 1) := by decide +kernel
theorem dX5_digest_310 : decode cX5_digest 310 = .ok (.lstore_n 1, 1) := by decide +kernel
theorem dX5_digest_311 : decode cX5_digest 311 = .ok (.iinc 3 1, 3) := by decide +kernel
theorem dX5_digest_314 : decode cX5_digest 314 = .ok (.goto (-102), 3) := by decide +kernel
theorem dX5_digest_317 : decode cX5_digest 317 = .ok (.lload_n 1, 1) := by decide +kernel
theorem dX5_digest_318 : decode cX5_digest 318 = .ok (.lreturn, 1) := by decide +kernel
theorem dX5_checkChannel_0 : decode cX5_checkChannel 0 = .ok (.aload_n 0, 1) := by decide +kernel
theorem dX5_checkChannel_1 : decode cX5_checkChannel 1 = .ok (.iload_n 1, 1) := by decide +kernel
theorem dX5_checkChannel_2 : decode cX5_checkChannel 2 = .ok (.invokevirtual 242, 3) := by decide +kernel
theorem dX5_checkChannel_5 : decode cX5_checkChannel 5 = .ok (.ifCond .ne 13, 3) := by decide +kernel
theorem dX5_checkChannel_8 : decode cX5_checkChannel 8 = .ok (.new 150, 3) := by decide +kernel
theorem dX5_checkChannel_11 : decode cX5_checkChannel 11 = .ok (.dup, 1) := by decide +kernel
theorem dX5_checkChannel_12 : decode cX5_checkChannel 12 = .ok (.ldc 245, 2) := by decide +kernel
theorem dX5_checkChannel_14 : decode cX5_checkChannel 14 = .ok (.invokespecial 154, 3) := by decide +kernel
theorem dX5_checkChannel_17 : decode cX5_checkChannel 17 = .ok (.athrow, 1) := by decide +kernel
theorem dX5_checkChannel_18 : decode cX5_checkChannel 18 = .ok (.return_, 1) := by decide +kernel
theorem dX5_checkFiber_0 : decode cX5_checkFiber 0 = .ok (.aload_n 0, 1) := by decide +kernel
theorem dX5_checkFiber_1 : decode cX5_checkFiber 1 = .ok (.iload_n 1, 1) := by decide +kernel
theorem dX5_checkFiber_2 : decode cX5_checkFiber 2 = .ok (.invokevirtual 247, 3) := by decide +kernel
theorem dX5_checkFiber_5 : decode cX5_checkFiber 5 = .ok (.ifCond .ne 13, 3) := by decide +kernel
theorem dX5_checkFiber_8 : decode cX5_checkFiber 8 = .ok (.new 150, 3) := by decide +kernel
theorem dX5_checkFiber_11 : decode cX5_checkFiber 11 = .ok (.dup, 1) := by decide +kernel
theorem dX5_checkFiber_12 : decode cX5_checkFiber 12 = .ok (.ldc 250, 2) := by decide +kernel
theorem dX5_checkFiber_14 : decode cX5_checkFiber 14 = .ok (.invokespecial 154, 3) := by decide +kernel
theorem dX5_checkFiber_17 : decode cX5_checkFiber 17 = .ok (.athrow, 1) := by decide +kernel
theorem dX5_checkFiber_18 : decode cX5_checkFiber 18 = .ok (.return_, 1) := by decide +kernel
theorem dX5_checkTurns_0 : decode cX5_checkTurns 0 = .ok (.iload_n 1, 1) := by decide +kernel
theorem dX5_checkTurns_1 : decode cX5_checkTurns 1 = .ok (.iconst 1, 1) := by decide +kernel
theorem dX5_checkTurns_2 : decode cX5_checkTurns 2 = .ok (.if_icmp .lt 9, 3) := by decide +kernel
theorem dX5_checkTurns_5 : decode cX5_checkTurns 5 = .ok (.iload_n 1, 1) := by decide +kernel
theorem dX5_checkTurns_6 : decode cX5_checkTurns 6 = .ok (.bipush 60, 2) := by decide +kernel
theorem dX5_checkTurns_8 : decode cX5_checkTurns 8 = .ok (.if_icmp .le 13, 3) := by decide +kernel
theorem dX5_checkTurns_11 : decode cX5_checkTurns 11 = .ok (.new 19, 3) := by decide +kernel
theorem dX5_checkTurns_14 : decode cX5_checkTurns 14 = .ok (.dup, 1) := by decide +kernel
theorem dX5_checkTurns_15 : decode cX5_checkTurns 15 = .ok (.ldc 252, 2) := by decide +kernel
theorem dX5_checkTurns_17 : decode cX5_checkTurns 17 = .ok (.invokespecial 23, 3) := by decide +kernel
theorem dX5_checkTurns_20 : decode cX5_checkTurns 20 = .ok (.athrow, 1) := by decide +kernel
theorem dX5_checkTurns_21 : decode cX5_checkTurns 21 = .ok (.return_, 1) := by decide +kernel
theorem dX5_isChannel_0 : decode cX5_isChannel 0 = .ok (.iload_n 1, 1) := by decide +kernel
theorem dX5_isChannel_1 : decode cX5_isChannel 1 = .ok (.ifCond .lt 18, 3) := by decide +kernel
theorem dX5_isChannel_4 : decode cX5_isChannel 4 = .ok (.iload_n 1, 1) := by decide +kernel
theorem dX5_isChannel_5 : decode cX5_isChannel 5 = .ok (.aload_n 0, 1) := by decide +kernel
theorem dX5_isChannel_6 : decode cX5_isChannel 6 = .ok (.getfield 10, 3) := by decide +kernel
theorem dX5_isChannel_9 : decode cX5_isChannel 9 = .ok (.getfield 26, 3) := by decide +kernel
theorem dX5_isChannel_12 : decode cX5_isChannel 12 = .ok (.if_icmp .ge 7, 3) := by decide +kernel
theorem dX5_isChannel_15 : decode cX5_isChannel 15 = .ok (.iconst 1, 1) := by decide +kernel
theorem dX5_isChannel_16 : decode cX5_isChannel 16 = .ok (.goto 4, 3) := by decide +kernel
theorem dX5_isChannel_19 : decode cX5_isChannel 19 = .ok (.iconst 0, 1) := by decide +kernel
theorem dX5_isChannel_20 : decode cX5_isChannel 20 = .ok (.ireturn, 1) := by decide +kernel
theorem dX5_isFiber_0 : decode cX5_isFiber 0 = .ok (.iload_n 1, 1) := by decide +kernel
theorem dX5_isFiber_1 : decode cX5_isFiber 1 = .ok (.ifCond .lt 18, 3) := by decide +kernel
theorem dX5_isFiber_4 : decode cX5_isFiber 4 = .ok (.iload_n 1, 1) := by decide +kernel
theorem dX5_isFiber_5 : decode cX5_isFiber 5 = .ok (.aload_n 0, 1) := by decide +kernel
theorem dX5_isFiber_6 : decode cX5_isFiber 6 = .ok (.getfield 10, 3) := by decide +kernel
theorem dX5_isFiber_9 : decode cX5_isFiber 9 = .ok (.getfield 44, 3) := by decide +kernel
theorem dX5_isFiber_12 : decode cX5_isFiber 12 = .ok (.if_icmp .ge 7, 3) := by decide +kernel
theorem dX5_isFiber_15 : decode cX5_isFiber 15 = .ok (.iconst 1, 1) := by decide +kernel
theorem dX5_isFiber_16 : decode cX5_isFiber 16 = .ok (.goto 4, 3) := by decide +kernel
theorem dX5_isFiber_19 : decode cX5_isFiber 19 = .ok (.iconst 0, 1) := by decide +kernel
theorem dX5_isFiber_20 : decode cX5_isFiber 20 = .ok (.ireturn, 1) := by decide +kernel
theorem dX5_isValue_0 : decode cX5_isValue 0 = .ok (.iload_n 1, 1) := by decide +kernel
theorem dX5_isValue_1 : decode cX5_isValue 1 = .ok (.sipush (-999), 3) := by decide +kernel
theorem dX5_isValue_4 : decode cX5_isValue 4 = .ok (.if_icmp .lt 14, 3) := by decide +kernel
theorem dX5_isValue_7 : decode cX5_isValue 7 = .ok (.iload_n 1, 1) := by decide +kernel
theorem dX5_isValue_8 : decode cX5_isValue 8 = .ok (.sipush 999, 3) := by decide +kernel
theorem dX5_isValue_11 : decode cX5_isValue 11 = .ok (.if_icmp .gt 7, 3) := by decide +kernel
theorem dX5_isValue_14 : decode cX5_isValue 14 = .ok (.iconst 1, 1) := by decide +kernel
theorem dX5_isValue_15 : decode cX5_isValue 15 = .ok (.goto 4, 3) := by decide +kernel
theorem dX5_isValue_18 : decode cX5_isValue 18 = .ok (.iconst 0, 1) := by decide +kernel
theorem dX5_isValue_19 : decode cX5_isValue 19 = .ok (.ireturn, 1) := by decide +kernel
theorem dX5_isStep_0 : decode cX5_isStep 0 = .ok (.iload_n 2, 1) := by decide +kernel
theorem dX5_isStep_1 : decode cX5_isStep 1 = .ok (.tableswitch 148 0 6 #[43, 66, 72, 89, 91, 110, 66], 43) := by decide +kernel
theorem dX5_isStep_44 : decode cX5_isStep 44 = .ok (.aload_n 0, 1) := by decide +kernel
theorem dX5_isStep_45 : decode cX5_isStep 45 = .ok (.iload_n 3, 1) := by decide +kernel
theorem dX5_isStep_46 : decode cX5_isStep 46 = .ok (.invokevirtual 242, 3) := by decide +kernel
theorem dX5_isStep_49 : decode cX5_isStep 49 = .ok (.ifCond .eq 16, 3) := by decide +kernel
theorem dX5_isStep_52 : decode cX5_isStep 52 = .ok (.aload_n 0, 1) := by decide +kernel
theorem dX5_isStep_53 : decode cX5_isStep 53 = .ok (.iload 4, 2) := by decide +kernel
theorem dX5_isStep_55 : decode cX5_isStep 55 = .ok (.invokevirtual 90, 3) := by decide +kernel
theorem dX5_isStep_58 : decode cX5_isStep 58 = .ok (.ifCond .eq 7, 3) := by decide +kernel
theorem dX5_isStep_61 : decode cX5_isStep 61 = .ok (.iconst 1, 1) := by decide +kernel
theorem dX5_isStep_62 : decode cX5_isStep 62 = .ok (.goto 4, 3) := by decide +kernel
theorem dX5_isStep_65 : decode cX5_isStep 65 = .ok (.iconst 0, 1) := by decide +kernel
theorem dX5_isStep_66 : decode cX5_isStep 66 = .ok (.ireturn, 1) := by decide +kernel
theorem dX5_isStep_67 : decode cX5_isStep 67 = .ok (.aload_n 0, 1) := by decide +kernel
theorem dX5_isStep_68 : decode cX5_isStep 68 = .ok (.iload_n 3, 1) := by decide +kernel
theorem dX5_isStep_69 : decode cX5_isStep 69 = .ok (.invokevirtual 242, 3) := by decide +kernel
theorem dX5_isStep_72 : decode cX5_isStep 72 = .ok (.ireturn, 1) := by decide +kernel
theorem dX5_isStep_73 : decode cX5_isStep 73 = .ok (.iload_n 3, 1) := by decide +kernel
theorem dX5_isStep_74 : decode cX5_isStep 74 = .ok (.iconst 1, 1) := by decide +kernel
theorem dX5_isStep_75 : decode cX5_isStep 75 = .ok (.if_icmp .lt 13, 3) := by decide +kernel
theorem dX5_isStep_78 : decode cX5_isStep 78 = .ok (.iload_n 3, 1) := by decide +kernel
theorem dX5_isStep_79 : decode cX5_isStep 79 = .ok (.bipush 20, 2) := by decide +kernel
theorem dX5_isStep_81 : decode cX5_isStep 81 = .ok (.if_icmp .gt 7, 3) := by decide +kernel
theorem dX5_isStep_84 : decode cX5_isStep 84 = .ok (.iconst 1, 1) := by decide +kernel
theorem dX5_isStep_85 : decode cX5_isStep 85 = .ok (.goto 4, 3) := by decide +kernel
theorem dX5_isStep_88 : decode cX5_isStep 88 = .ok (.iconst 0, 1) := by decide +kernel
theorem dX5_isStep_89 : decode cX5_isStep 89 = .ok (.ireturn, 1) := by decide +kernel
theorem dX5_isStep_90 : decode cX5_isStep 90 = .ok (.iconst 1, 1) := by decide +kernel
theorem dX5_isStep_91 : decode cX5_isStep 91 = .ok (.ireturn, 1) := by decide +kernel
theorem dX5_isStep_92 : decode cX5_isStep 92 = .ok (.aload_n 0, 1) := by decide +kernel
theorem dX5_isStep_93 : decode cX5_isStep 93 = .ok (.iload_n 3, 1) := by decide +kernel
theorem dX5_isStep_94 : decode cX5_isStep 94 = .ok (.invokevirtual 247, 3) := by decide +kernel
theorem dX5_isStep_97 : decode cX5_isStep 97 = .ok (.ifCond .eq 12, 3) := by decide +kernel
theorem dX5_isStep_100 : decode cX5_isStep 100 = .ok (.iload_n 3, 1) := by decide +kernel
theorem dX5_isStep_101 : decode cX5_isStep 101 = .ok (.iload_n 1, 1) := by decide +kernel
theorem dX5_isStep_102 : decode cX5_isStep 102 = .ok (.if_icmp .eq 7, 3) := by decide +kernel
theorem dX5_isStep_105 : decode cX5_isStep 105 = .ok (.iconst 1, 1) := by decide +kernel
theorem dX5_isStep_106 : decode cX5_isStep 106 = .ok (.goto 4, 3) := by decide +kernel
theorem dX5_isStep_109 : decode cX5_isStep 109 = .ok (.iconst 0, 1) := by decide +kernel
theorem dX5_isStep_110 : decode cX5_isStep 110 = .ok (.ireturn, 1) := by decide +kernel
theorem dX5_isStep_111 : decode cX5_isStep 111 = .ok (.iload_n 3, 1) := by decide +kernel
theorem dX5_isStep_112 : decode cX5_isStep 112 = .ok (.ifCond .lt 35, 3) := by decide +kernel
theorem dX5_isStep_115 : decode cX5_isStep 115 = .ok (.iload_n 3, 1) := by decide +kernel
theorem dX5_isStep_116 : decode cX5_isStep 116 = .ok (.aload_n 0, 1) := by decide +kernel
theorem dX5_isStep_117 : decode cX5_isStep 117 = .ok (.getfield 10, 3) := by decide +kernel
theorem dX5_isStep_120 : decode cX5_isStep 120 = .ok (.iload_n 1, 1) := by decide +kernel
theorem dX5_isStep_121 : decode cX5_isStep 121 = .ok (.invokevirtual 59, 3) := by decide +kernel
theorem dX5_isStep_124 : decode cX5_isStep 124 = .ok (.getfield 63, 3) := by decide +kernel
theorem dX5_isStep_127 : decode cX5_isStep 127 = .ok (.if_icmp .gt 20, 3) := by decide +kernel
theorem dX5_isStep_130 : decode cX5_isStep 130 = .ok (.iload 4, 2) := by decide +kernel
theorem dX5_isStep_132 : decode cX5_isStep 132 = .ok (.iconst 1, 1) := by decide +kernel
theorem dX5_isStep_133 : decode cX5_isStep 133 = .ok (.if_icmp .lt 14, 3) := by decide +kernel
theorem dX5_isStep_136 : decode cX5_isStep 136 = .ok (.iload 4, 2) := by decide +kernel
theorem dX5_isStep_138 : decode cX5_isStep 138 = .ok (.bipush 9, 2) := by decide +kernel
theorem dX5_isStep_140 : decode cX5_isStep 140 = .ok (.if_icmp .gt 7, 3) := by decide +kernel
theorem dX5_isStep_143 : decode cX5_isStep 143 = .ok (.iconst 1, 1) := by decide +kernel
theorem dX5_isStep_144 : decode cX5_isStep 144 = .ok (.goto 4, 3) := by decide +kernel
theorem dX5_isStep_147 : decode cX5_isStep 147 = .ok (.iconst 0, 1) := by decide +kernel
theorem dX5_isStep_148 : decode cX5_isStep 148 = .ok (.ireturn, 1) := by decide +kernel
theorem dX5_isStep_149 : decode cX5_isStep 149 = .ok (.iconst 0, 1) := by decide +kernel
theorem dX5_isStep_150 : decode cX5_isStep 150 = .ok (.ireturn, 1) := by decide +kernel
theorem dX6_init_0 : decode cX6_init 0 = .ok (.aload_n 0, 1) := by decide +kernel
theorem dX6_init_1 : decode cX6_init 1 = .ok (.invokespecial 3, 3) := by decide +kernel
theorem dX6_init_4 : decode cX6_init 4 = .ok (.aload_n 0, 1) := by decide +kernel
theorem dX6_init_5 : decode cX6_init 5 = .ok (.bipush 8, 2) := by decide +kernel
theorem dX6_init_7 : decode cX6_init 7 = .ok (.newarray .int, 2) := by decide +kernel
theorem dX6_init_9 : decode cX6_init 9 = .ok (.putfield 9, 3) := by decide +kernel
theorem dX6_init_12 : decode cX6_init 12 = .ok (.aload_n 0, 1) := by decide +kernel
theorem dX6_init_13 : decode cX6_init 13 = .ok (.bipush 96, 2) := by decide +kernel
theorem dX6_init_15 : decode cX6_init 15 = .ok (.newarray .int, 2) := by decide +kernel
theorem dX6_init_17 : decode cX6_init 17 = .ok (.putfield 13, 3) := by decide +kernel
theorem dX6_init_20 : decode cX6_init 20 = .ok (.aload_n 0, 1) := by decide +kernel
theorem dX6_init_21 : decode cX6_init 21 = .ok (.bipush 96, 2) := by decide +kernel
theorem dX6_init_23 : decode cX6_init 23 = .ok (.newarray .int, 2) := by decide +kernel
theorem dX6_init_25 : decode cX6_init 25 = .ok (.putfield 16, 3) := by decide +kernel
theorem dX6_init_28 : decode cX6_init 28 = .ok (.aload_n 0, 1) := by decide +kernel
theorem dX6_init_29 : decode cX6_init 29 = .ok (.bipush 96, 2) := by decide +kernel
theorem dX6_init_31 : decode cX6_init 31 = .ok (.newarray .int, 2) := by decide +kernel
theorem dX6_init_33 : decode cX6_init 33 = .ok (.putfield 19, 3) := by decide +kernel
theorem dX6_init_36 : decode cX6_init 36 = .ok (.aload_n 0, 1) := by decide +kernel
theorem dX6_init_37 : decode cX6_init 37 = .ok (.sipush 204, 3) := by decide +kernel
theorem dX6_init_40 : decode cX6_init 40 = .ok (.newarray .int, 2) := by decide +kernel
theorem dX6_init_42 : decode cX6_init 42 = .ok (.putfield 22, 3) := by decide +kernel
theorem dX6_init_45 : decode cX6_init 45 = .ok (.aload_n 0, 1) := by decide +kernel
theorem dX6_init_46 : decode cX6_init 46 = .ok (.sipush 204, 3) := by decide +kernel
theorem dX6_init_49 : decode cX6_init 49 = .ok (.newarray .int, 2) := by decide +kernel
theorem dX6_init_51 : decode cX6_init 51 = .ok (.putfield 25, 3) := by decide +kernel
theorem dX6_init_54 : decode cX6_init 54 = .ok (.return_, 1) := by decide +kernel
theorem dX6_thrown_0 : decode cX6_thrown 0 = .ok (.aload_n 0, 1) := by decide +kernel
theorem dX6_thrown_1 : decode cX6_thrown 1 = .ok (.getfield 28, 3) := by decide +kernel
theorem dX6_thrown_4 : decode cX6_thrown 4 = .ok (.ireturn, 1) := by decide +kernel
theorem dX6_no_0 : decode cX6_no 0 = .ok (.aload_n 0, 1) := by decide +kernel
theorem dX6_no_1 : decode cX6_no 1 = .ok (.iload_n 1, 1) := by decide +kernel
theorem dX6_no_2 : decode cX6_no 2 = .ok (.putfield 28, 3) := by decide +kernel
theorem dX6_no_5 : decode cX6_no 5 = .ok (.iconst 0, 1) := by decide +kernel
theorem dX6_no_6 : decode cX6_no 6 = .ok (.ireturn, 1) := by decide +kernel
theorem dX6_ok_0 : decode cX6_ok 0 = .ok (.aload_n 0, 1) := by decide +kernel
theorem dX6_ok_1 : decode cX6_ok 1 = .ok (.iconst 0, 1) := by decide +kernel
theorem dX6_ok_2 : decode cX6_ok 2 = .ok (.putfield 28, 3) := by decide +kernel
theorem dX6_ok_5 : decode cX6_ok 5 = .ok (.iload_n 1, 1) := by decide +kernel
theorem dX6_ok_6 : decode cX6_ok 6 = .ok (.ireturn, 1) := by decide +kernel
theorem dX6_isFrom_0 : decode cX6_isFrom 0 = .ok (.iload_n 0, 1) := by decide +kernel
theorem dX6_isFrom_1 : decode cX6_isFrom 1 = .ok (.iload_n 1, 1) := by decide +kernel
theorem dX6_isFrom_2 : decode cX6_isFrom 2 = .ok (.if_icmp .lt 12, 3) := by decide +kernel
theorem dX6_isFrom_5 : decode cX6_isFrom 5 = .ok (.iload_n 0, 1) := by decide +kernel
theorem dX6_isFrom_6 : decode cX6_isFrom 6 = .ok (.iload_n 2, 1) := by decide +kernel
theorem dX6_isFrom_7 : decode cX6_isFrom 7 = .ok (.if_icmp .gt 7, 3) := by decide +kernel
theorem dX6_isFrom_10 : decode cX6_isFrom 10 = .ok (.iconst 1, 1) := by decide +kernel
theorem dX6_isFrom_11 : decode cX6_isFrom 11 = .ok (.goto 4, 3) := by decide +kernel
theorem dX6_isFrom_14 : decode cX6_isFrom 14 = .ok (.iconst 0, 1) := by decide +kernel
theorem dX6_isFrom_15 : decode cX6_isFrom 15 = .ok (.ireturn, 1) := by decide +kernel
theorem dX6_isChannel_0 : decode cX6_isChannel 0 = .ok (.iload_n 1, 1) := by decide +kernel
theorem dX6_isChannel_1 : decode cX6_isChannel 1 = .ok (.iconst 0, 1) := by decide +kernel
theorem dX6_isChannel_2 : decode cX6_isChannel 2 = .ok (.aload_n 0, 1) := by decide +kernel
theorem dX6_isChannel_3 : decode cX6_isChannel 3 = .ok (.getfield 32, 3) := by decide +kernel
theorem dX6_isChannel_6 : decode cX6_isChannel 6 = .ok (.iconst 1, 1) := by decide +kernel
theorem dX6_isChannel_7 : decode cX6_isChannel 7 = .ok (.isub, 1) := by decide +kernel
theorem dX6_isChannel_8 : decode cX6_isChannel 8 = .ok (.invokestatic 35, 3) := by decide +kernel
theorem dX6_isChannel_11 : decode cX6_isChannel 11 = .ok (.ireturn, 1) := by decide +kernel
theorem dX6_isFiber_0 : decode cX6_isFiber 0 = .ok (.iload_n 1, 1) := by decide +kernel
theorem dX6_isFiber_1 : decode cX6_isFiber 1 = .ok (.iconst 0, 1) := by decide +kernel
theorem dX6_isFiber_2 : decode cX6_isFiber 2 = .ok (.aload_n 0, 1) := by decide +kernel
theorem dX6_isFiber_3 : decode cX6_isFiber 3 = .ok (.getfield 39, 3) := by decide +kernel
theorem dX6_isFiber_6 : decode cX6_isFiber 6 = .ok (.iconst 1, 1) := by decide +kernel
theorem dX6_isFiber_7 : decode cX6_isFiber 7 = .ok (.isub, 1) := by decide +kernel
theorem dX6_isFiber_8 : decode cX6_isFiber 8 = .ok (.invokestatic 35, 3) := by decide +kernel
theorem dX6_isFiber_11 : decode cX6_isFiber 11 = .ok (.ireturn, 1) := by decide +kernel
theorem dX6_keep_0 : decode cX6_keep 0 = .ok (.aload_n 0, 1) := by decide +kernel
theorem dX6_keep_1 : decode cX6_keep 1 = .ok (.getfield 22, 3) := by decide +kernel
theorem dX6_keep_4 : decode cX6_keep 4 = .ok (.iconst 0, 1) := by decide +kernel
theorem dX6_keep_5 : decode cX6_keep 5 = .ok (.aload_n 0, 1) := by decide +kernel
theorem dX6_keep_6 : decode cX6_keep 6 = .ok (.getfield 25, 3) := by decide +kernel
theorem dX6_keep_9 : decode cX6_keep 9 = .ok (.iconst 0, 1) := by decide +kernel
theorem dX6_keep_10 : decode cX6_keep 10 = .ok (.sipush 204, 3) := by decide +kernel
theorem dX6_keep_13 : decode cX6_keep 13 = .ok (.invokestatic 42, 3) := by decide +kernel
theorem dX6_keep_16 : decode cX6_keep 16 = .ok (.return_, 1) := by decide +kernel
theorem dX6_bringBack_0 : decode cX6_bringBack 0 = .ok (.aload_n 0, 1) := by decide +kernel
theorem dX6_bringBack_1 : decode cX6_bringBack 1 = .ok (.getfield 25, 3) := by decide +kernel
theorem dX6_bringBack_4 : decode cX6_bringBack 4 = .ok (.iconst 0, 1) := by decide +kernel
theorem dX6_bringBack_5 : decode cX6_bringBack 5 = .ok (.aload_n 0, 1) := by decide +kernel
theorem dX6_bringBack_6 : decode cX6_bringBack 6 = .ok (.getfield 22, 3) := by decide +kernel
theorem dX6_bringBack_9 : decode cX6_bringBack 9 = .ok (.iconst 0, 1) := by decide +kernel
theorem dX6_bringBack_10 : decode cX6_bringBack 10 = .ok (.sipush 204, 3) := by decide +kernel
theorem dX6_bringBack_13 : decode cX6_bringBack 13 = .ok (.invokestatic 42, 3) := by decide +kernel
theorem dX6_bringBack_16 : decode cX6_bringBack 16 = .ok (.return_, 1) := by decide +kernel
theorem dX6_ready_0 : decode cX6_ready 0 = .ok (.aload_n 0, 1) := by decide +kernel
theorem dX6_ready_1 : decode cX6_ready 1 = .ok (.getfield 22, 3) := by decide +kernel
theorem dX6_ready_4 : decode cX6_ready 4 = .ok (.bipush 12, 2) := by decide +kernel
theorem dX6_ready_6 : decode cX6_ready 6 = .ok (.iload_n 1, 1) := by decide +kernel
theorem dX6_ready_7 : decode cX6_ready 7 = .ok (.iadd, 1) := by decide +kernel
theorem dX6_ready_8 : decode cX6_ready 8 = .ok (.iconst 0, 1) := by decide +kernel
theorem dX6_ready_9 : decode cX6_ready 9 = .ok (.iastore, 1) := by decide +kernel
theorem dX6_ready_10 : decode cX6_ready 10 = .ok (.aload_n 0, 1) := by decide +kernel
theorem dX6_ready_11 : decode cX6_ready 11 = .ok (.getfield 22, 3) := by decide +kernel
theorem dX6_ready_14 : decode cX6_ready 14 = .ok (.iconst 4, 1) := by decide +kernel
theorem dX6_ready_15 : decode cX6_ready 15 = .ok (.aload_n 0, 1) := by decide +kernel
theorem dX6_ready_16 : decode cX6_ready 16 = .ok (.getfield 22, 3) := by decide +kernel
theorem dX6_ready_19 : decode cX6_ready 19 = .ok (.iconst 3, 1) := by decide +kernel
theorem dX6_ready_20 : decode cX6_ready 20 = .ok (.iaload, 1) := by decide +kernel
theorem dX6_ready_21 : decode cX6_ready 21 = .ok (.iadd, 1) := by decide +kernel
theorem dX6_ready_22 : decode cX6_ready 22 = .ok (.iload_n 1, 1) := by decide +kernel
theorem dX6_ready_23 : decode cX6_ready 23 = .ok (.iastore, 1) := by decide +kernel
theorem dX6_ready_24 : decode cX6_ready 24 = .ok (.aload_n 0, 1) := by decide +kernel
theorem dX6_ready_25 : decode cX6_ready 25 = .ok (.getfield 22, 3) := by decide +kernel
theorem dX6_ready_28 : decode cX6_ready 28 = .ok (.iconst 3, 1) := by decide +kernel
theorem dX6_ready_29 : decode cX6_ready 29 = .ok (.dup2, 1) := by decide +kernel
theorem dX6_ready_30 : decode cX6_ready 30 = .ok (.iaload, 1) := by decide +kernel
theorem dX6_ready_31 : decode cX6_ready 31 = .ok (.iconst 1, 1) := by decide +kernel
theorem dX6_ready_32 : decode cX6_ready 32 = .ok (.iadd, 1) := by decide +kernel
theorem dX6_ready_33 : decode cX6_ready 33 = .ok (.iastore, 1) := by decide +kernel
theorem dX6_ready_34 : decode cX6_ready 34 = .ok (.return_, 1) := by decide +kernel
theorem dX6_wake_0 : decode cX6_wake 0 = .ok (.iconst (-1), 1) := by decide +kernel
theorem dX6_wake_1 : decode cX6_wake 1 = .ok (.istore_n 3, 1) := by decide +kernel
theorem dX6_wake_2 : decode cX6_wake 2 = .ok (.iconst 0, 1) := by decide +kernel
theorem dX6_wake_3 : decode cX6_wake 3 = .ok (.istore 4, 2) := by decide +kernel
theorem dX6_wake_5 : decode cX6_wake 5 = .ok (.iload 4, 2) := by decide +kernel
theorem dX6_wake_7 : decode cX6_wake 7 = .ok (.aload_n 0, 1) := by decide +kernel
theorem dX6_wake_8 : decode cX6_wake 8 = .ok (.getfield 39, 3) := by decide +kernel
theorem dX6_wake_11 : decode cX6_wake 11 = .ok (.if_icmp .ge 50, 3) := by decide +kernel
theorem dX6_wake_14 : decode cX6_wake 14 = .ok (.aload_n 0, 1) := by decide +kernel
theorem dX6_wake_15 : decode cX6_wake 15 = .ok (.iload 4, 2) := by decide +kernel
theorem dX6_wake_17 : decode cX6_wake 17 = .ok (.iload_n 1, 1) := by decide +kernel
theorem dX6_wake_18 : decode cX6_wake 18 = .ok (.iload_n 2, 1) := by decide +kernel
theorem dX6_wake_19 : decode cX6_wake 19 = .ok (.invokevirtual 48, 3) := by decide +kernel
theorem dX6_wake_22 : decode cX6_wake 22 = .ok (.ifCond .eq 33, 3) := by decide +kernel
theorem dX6_wake_25 : decode cX6_wake 25 = .ok (.iload_n 3, 1) := by decide +kernel
theorem dX6_wake_26 : decode cX6_wake 26 = .ok (.iconst (-1), 1) := by decide +kernel
theorem dX6_wake_27 : decode cX6_wake 27 = .ok (.if_icmp .eq 25, 3) := by decide +kernel
theorem dX6_wake_30 : decode cX6_wake 30 = .ok (.aload_n 0, 1) := by decide +kernel
theorem dX6_wake_31 : decode cX6_wake 31 = .ok (.getfield 22, 3) := by decide +kernel
theorem dX6_wake_34 : decode cX6_wake 34 = .ok (.bipush 60, 2) := by decide +kernel
theorem dX6_wake_36 : decode cX6_wake 36 = .ok (.iload 4, 2) := by decide +kernel
theorem dX6_wake_38 : decode cX6_wake 38 = .ok (.iadd, 1) := by decide +kernel
theorem dX6_wake_39 : decode cX6_wake 39 = .ok (.iaload, 1) := by decide +kernel
theorem dX6_wake_40 : decode cX6_wake 40 = .ok (.aload_n 0, 1) := by decide +kernel
theorem dX6_wake_41 : decode cX6_wake 41 = .ok (.getfield 22, 3) := by decide +kernel
theorem dX6_wake_44 : decode cX6_wake 44 = .ok (.bipush 60, 2) := by decide +kernel
theorem dX6_wake_46 : decode cX6_wake 46 = .ok (.iload_n 3, 1) := by decide +kernel
theorem dX6_wake_47 : decode cX6_wake 47 = .ok (.iadd, 1) := by decide +kernel
theorem dX6_wake_48 : decode cX6_wake 48 = .ok (.iaload, 1) := by decide +kernel
theorem dX6_wake_49 : decode cX6_wake 49 = .ok (.if_icmp .ge 6, 3) := by decide +kernel
theorem dX6_wake_52 : decode cX6_wake 52 = .ok (.iload 4, 2) := by decide +kernel
theorem dX6_wake_54 : decode cX6_wake 54 = .ok (.istore_n 3, 1) := by decide +kernel
theorem dX6_wake_55 : decode cX6_wake 55 = .ok (.iinc 4 1, 3) := by decide +kernel
theorem dX6_wake_58 : decode cX6_wake 58 = .ok (.goto (-53), 3) := by decide +kernel
theorem dX6_wake_61 : decode cX6_wake 61 = .ok (.iload_n 3, 1) := by decide +kernel
theorem dX6_wake_62 : decode cX6_wake 62 = .ok (.iconst (-1), 1) := by decide +kernel
theorem dX6_wake_63 : decode cX6_wake 63 = .ok (.if_icmp .eq 8, 3) := by decide +kernel
theorem dX6_wake_66 : decode cX6_wake 66 = .ok (.aload_n 0, 1) := by decide +kernel
theorem dX6_wake_67 : decode cX6_wake 67 = .ok (.iload_n 3, 1) := by decide +kernel
theorem dX6_wake_68 : decode cX6_wake 68 = .ok (.invokevirtual 51, 3) := by decide +kernel
theorem dX6_wake_71 : decode cX6_wake 71 = .ok (.return_, 1) := by decide +kernel
theorem dX6_waits_0 : decode cX6_waits 0 = .ok (.aload_n 0, 1) := by decide +kernel
theorem dX6_waits_1 : decode cX6_waits 1 = .ok (.getfield 22, 3) := by decide +kernel
theorem dX6_waits_4 : decode cX6_waits 4 = .ok (.bipush 12, 2) := by decide +kernel
theorem dX6_waits_6 : decode cX6_waits 6 = .ok (.iload_n 1, 1) := by decide +kernel
theorem dX6_waits_7 : decode cX6_waits 7 = .ok (.iadd, 1) := by decide +kernel
theorem dX6_waits_8 : decode cX6_waits 8 = .ok (.iaload, 1) := by decide +kernel
theorem dX6_waits_9 : decode cX6_waits 9 = .ok (.iload_n 2, 1) := by decide +kernel
theorem dX6_waits_10 : decode cX6_waits 10 = .ok (.if_icmp .ne 30, 3) := by decide +kernel
theorem dX6_waits_13 : decode cX6_waits 13 = .ok (.aload_n 0, 1) := by decide +kernel
theorem dX6_waits_14 : decode cX6_waits 14 = .ok (.getfield 16, 3) := by decide +kernel
theorem dX6_waits_17 : decode cX6_waits 17 = .ok (.bipush 12, 2) := by decide +kernel
theorem dX6_waits_19 : decode cX6_waits 19 = .ok (.iload_n 1, 1) := by decide +kernel
theorem dX6_waits_20 : decode cX6_waits 20 = .ok (.imul, 1) := by decide +kernel
theorem dX6_waits_21 : decode cX6_waits 21 = .ok (.aload_n 0, 1) := by decide +kernel
theorem dX6_waits_22 : decode cX6_waits 22 = .ok (.getfield 22, 3) := by decide +kernel
theorem dX6_waits_25 : decode cX6_waits 25 = .ok (.bipush 20, 2) := by decide +kernel
theorem dX6_waits_27 : decode cX6_waits 27 = .ok (.iload_n 1, 1) := by decide +kernel
theorem dX6_waits_28 : decode cX6_waits 28 = .ok (.iadd, 1) := by decide +kernel
theorem dX6_waits_29 : decode cX6_waits 29 = .ok (.iaload, 1) := by decide +kernel
theorem dX6_waits_30 : decode cX6_waits 30 = .ok (.iadd, 1) := by decide +kernel
theorem dX6_waits_31 : decode cX6_waits 31 = .ok (.iaload, 1) := by decide +kernel
theorem dX6_waits_32 : decode cX6_waits 32 = .ok (.iload_n 3, 1) := by decide +kernel
theorem dX6_waits_33 : decode cX6_waits 33 = .ok (.if_icmp .ne 7, 3) := by decide +kernel
theorem dX6_waits_36 : decode cX6_waits 36 = .ok (.iconst 1, 1) := by decide +kernel
theorem dX6_waits_37 : decode cX6_waits 37 = .ok (.goto 4, 3) := by decide +kernel
theorem dX6_waits_40 : decode cX6_waits 40 = .ok (.iconst 0, 1) := by decide +kernel
theorem dX6_waits_41 : decode cX6_waits 41 = .ok (.ireturn, 1) := by decide +kernel
theorem dX6_send_0 : decode cX6_send 0 = .ok (.aload_n 0, 1) := by decide +kernel
theorem dX6_send_1 : decode cX6_send 1 = .ok (.getfield 22, 3) := by decide +kernel
theorem dX6_send_4 : decode cX6_send 4 = .ok (.sipush 172, 3) := by decide +kernel
theorem dX6_send_7 : decode cX6_send 7 = .ok (.bipush 8, 2) := by decide +kernel
theorem dX6_send_9 : decode cX6_send 9 = .ok (.iload_n 1, 1) := by decide +kernel
theorem dX6_send_10 : decode cX6_send 10 = .ok (.imul, 1) := by decide +kernel
theorem dX6_send_11 : decode cX6_send 11 = .ok (.iadd, 1) := by decide +kernel
theorem dX6_send_12 : decode cX6_send 12 = .ok (.aload_n 0, 1) := by decide +kernel
theorem dX6_send_13 : decode cX6_send 13 = .ok (.getfield 22, 3) := by decide +kernel
theorem dX6_send_16 : decode cX6_send 16 = .ok (.sipush 168, 3) := by decide +kernel
theorem dX6_send_19 : decode cX6_send 19 = .ok (.iload_n 1, 1) := by decide +kernel
theorem dX6_send_20 : decode cX6_send 20 = .ok (.iadd, 1) := by decide +kernel
theorem dX6_send_21 : decode cX6_send 21 = .ok (.iaload, 1) := by decide +kernel
theorem dX6_send_22 : decode cX6_send 22 = .ok (.iadd, 1) := by decide +kernel
theorem dX6_send_23 : decode cX6_send 23 = .ok (.iload_n 2, 1) := by decide +kernel
theorem dX6_send_24 : decode cX6_send 24 = .ok (.iastore, 1) := by decide +kernel
theorem dX6_send_25 : decode cX6_send 25 = .ok (.aload_n 0, 1) := by decide +kernel
theorem dX6_send_26 : decode cX6_send 26 = .ok (.getfield 22, 3) := by decide +kernel
theorem dX6_send_29 : decode cX6_send 29 = .ok (.sipush 168, 3) := by decide +kernel
theorem dX6_send_32 : decode cX6_send 32 = .ok (.iload_n 1, 1) := by decide +kernel
theorem dX6_send_33 : decode cX6_send 33 = .ok (.iadd, 1) := by decide +kernel
theorem dX6_send_34 : decode cX6_send 34 = .ok (.dup2, 1) := by decide +kernel
theorem dX6_send_35 : decode cX6_send 35 = .ok (.iaload, 1) := by decide +kernel
theorem dX6_send_36 : decode cX6_send 36 = .ok (.iconst 1, 1) := by decide +kernel
theorem dX6_send_37 : decode cX6_send 37 = .ok (.iadd, 1) := by decide +kernel
theorem dX6_send_38 : decode cX6_send 38 = .ok (.iastore, 1) := by decide +kernel
theorem dX6_send_39 : decode cX6_send 39 = .ok (.aload_n 0, 1) := by decide +kernel
theorem dX6_send_40 : decode cX6_send 40 = .ok (.iconst 2, 1) := by decide +kernel
theorem dX6_send_41 : decode cX6_send 41 = .ok (.iload_n 1, 1) := by decide +kernel
theorem dX6_send_42 : decode cX6_send 42 = .ok (.invokevirtual 55, 3) := by decide +kernel
theorem dX6_send_45 : decode cX6_send 45 = .ok (.return_, 1) := by decide +kernel
theorem dX6_take_0 : decode cX6_take 0 = .ok (.sipush 172, 3) := by decide +kernel
theorem dX6_take_3 : decode cX6_take 3 = .ok (.bipush 8, 2) := by decide +kernel
theorem dX6_take_5 : decode cX6_take 5 = .ok (.iload_n 1, 1) := by decide +kernel
theorem dX6_take_6 : decode cX6_take 6 = .ok (.imul, 1) := by decide +kernel
theorem dX6_take_7 : decode cX6_take 7 = .ok (.iadd, 1) := by decide +kernel
theorem dX6_take_8 : decode cX6_take 8 = .ok (.istore_n 2, 1) := by decide +kernel
theorem dX6_take_9 : decode cX6_take 9 = .ok (.aload_n 0, 1) := by decide +kernel
theorem dX6_take_10 : decode cX6_take 10 = .ok (.getfield 22, 3) := by decide +kernel
theorem dX6_take_13 : decode cX6_take 13 = .ok (.iload_n 2, 1) := by decide +kernel
theorem dX6_take_14 : decode cX6_take 14 = .ok (.iaload, 1) := by decide +kernel
theorem dX6_take_15 : decode cX6_take 15 = .ok (.istore_n 3, 1) := by decide +kernel
theorem dX6_take_16 : decode cX6_take 16 = .ok (.aload_n 0, 1) := by decide +kernel
theorem dX6_take_17 : decode cX6_take 17 = .ok (.getfield 22, 3) := by decide +kernel
theorem dX6_take_20 : decode cX6_take 20 = .ok (.sipush 168, 3) := by decide +kernel
theorem dX6_take_23 : decode cX6_take 23 = .ok (.iload_n 1, 1) := by decide +kernel
theorem dX6_take_24 : decode cX6_take 24 = .ok (.iadd, 1) := by decide +kernel
theorem dX6_take_25 : decode cX6_take 25 = .ok (.dup2, 1) := by decide +kernel
theorem dX6_take_26 : decode cX6_take 26 = .ok (.iaload, 1) := by decide +kernel
theorem dX6_take_27 : decode cX6_take 27 = .ok (.iconst 1, 1) := by decide +kernel
theorem dX6_take_28 : decode cX6_take 28 = .ok (.isub, 1) := by decide +kernel
theorem dX6_take_29 : decode cX6_take 29 = .ok (.iastore, 1) := by decide +kernel
theorem dX6_take_30 : decode cX6_take 30 = .ok (.aload_n 0, 1) := by decide +kernel
theorem dX6_take_31 : decode cX6_take 31 = .ok (.getfield 22, 3) := by decide +kernel
theorem dX6_take_34 : decode cX6_take 34 = .ok (.iload_n 2, 1) := by decide +kernel
theorem dX6_take_35 : decode cX6_take 35 = .ok (.iconst 1, 1) := by decide +kernel
theorem dX6_take_36 : decode cX6_take 36 = .ok (.iadd, 1) := by decide +kernel
theorem dX6_take_37 : decode cX6_take 37 = .ok (.aload_n 0, 1) := by decide +kernel
theorem dX6_take_38 : decode cX6_take 38 = .ok (.getfield 22, 3) := by decide +kernel
theorem dX6_take_41 : decode cX6_take 41 = .ok (.iload_n 2, 1) := by decide +kernel
theorem dX6_take_42 : decode cX6_take 42 = .ok (.aload_n 0, 1) := by decide +kernel
theorem dX6_take_43 : decode cX6_take 43 = .ok (.getfield 22, 3) := by decide +kernel
theorem dX6_take_46 : decode cX6_take 46 = .ok (.sipush 168, 3) := by decide +kernel
theorem dX6_take_49 : decode cX6_take 49 = .ok (.iload_n 1, 1) := by decide +kernel
theorem dX6_take_50 : decode cX6_take 50 = .ok (.iadd, 1) := by decide +kernel
theorem dX6_take_51 : decode cX6_take 51 = .ok (.iaload, 1) := by decide +kernel
theorem dX6_take_52 : decode cX6_take 52 = .ok (.invokestatic 42, 3) := by decide +kernel
theorem dX6_take_55 : decode cX6_take 55 = .ok (.aload_n 0, 1) := by decide +kernel
theorem dX6_take_56 : decode cX6_take 56 = .ok (.iconst 1, 1) := by decide +kernel
theorem dX6_take_57 : decode cX6_take 57 = .ok (.iload_n 1, 1) := by decide +kernel
theorem dX6_take_58 : decode cX6_take 58 = .ok (.invokevirtual 55, 3) := by decide +kernel
theorem dX6_take_61 : decode cX6_take 61 = .ok (.iload_n 3, 1) := by decide +kernel
theorem dX6_take_62 : decode cX6_take 62 = .ok (.ireturn, 1) := by decide +kernel
theorem dX6_waitIn_0 : decode cX6_waitIn 0 = .ok (.aload_n 0, 1) := by decide +kernel
theorem dX6_waitIn_1 : decode cX6_waitIn 1 = .ok (.getfield 22, 3) := by decide +kernel
theorem dX6_waitIn_4 : decode cX6_waitIn 4 = .ok (.bipush 12, 2) := by decide +kernel
theorem dX6_waitIn_6 : decode cX6_waitIn 6 = .ok (.iload_n 1, 1) := by decide +kernel
theorem dX6_waitIn_7 : decode cX6_waitIn 7 = .ok (.iadd, 1) := by decide +kernel
theorem dX6_waitIn_8 : decode cX6_waitIn 8 = .ok (.iload_n 2, 1) := by decide +kernel
theorem dX6_waitIn_9 : decode cX6_waitIn 9 = .ok (.iastore, 1) := by decide +kernel
theorem dX6_waitIn_10 : decode cX6_waitIn 10 = .ok (.aload_n 0, 1) := by decide +kernel
theorem dX6_waitIn_11 : decode cX6_waitIn 11 = .ok (.getfield 22, 3) := by decide +kernel
theorem dX6_waitIn_14 : decode cX6_waitIn 14 = .ok (.bipush 60, 2) := by decide +kernel
theorem dX6_waitIn_16 : decode cX6_waitIn 16 = .ok (.iload_n 1, 1) := by decide +kernel
theorem dX6_waitIn_17 : decode cX6_waitIn 17 = .ok (.iadd, 1) := by decide +kernel
theorem dX6_waitIn_18 : decode cX6_waitIn 18 = .ok (.aload_n 0, 1) := by decide +kernel
theorem dX6_waitIn_19 : decode cX6_waitIn 19 = .ok (.getfield 22, 3) := by decide +kernel
theorem dX6_waitIn_22 : decode cX6_waitIn 22 = .ok (.iconst 2, 1) := by decide +kernel
theorem dX6_waitIn_23 : decode cX6_waitIn 23 = .ok (.iaload, 1) := by decide +kernel
theorem dX6_waitIn_24 : decode cX6_waitIn 24 = .ok (.iastore, 1) := by decide +kernel
theorem dX6_waitIn_25 : decode cX6_waitIn 25 = .ok (.aload_n 0, 1) := by decide +kernel
theorem dX6_waitIn_26 : decode cX6_waitIn 26 = .ok (.getfield 22, 3) := by decide +kernel
theorem dX6_waitIn_29 : decode cX6_waitIn 29 = .ok (.iconst 2, 1) := by decide +kernel
theorem dX6_waitIn_30 : decode cX6_waitIn 30 = .ok (.dup2, 1) := by decide +kernel
theorem dX6_waitIn_31 : decode cX6_waitIn 31 = .ok (.iaload, 1) := by decide +kernel
theorem dX6_waitIn_32 : decode cX6_waitIn 32 = .ok (.iconst 1, 1) := by decide +kernel
theorem dX6_waitIn_33 : decode cX6_waitIn 33 = .ok (.iadd, 1) := by decide +kernel
theorem dX6_waitIn_34 : decode cX6_waitIn 34 = .ok (.iastore, 1) := by decide +kernel
theorem dX6_waitIn_35 : decode cX6_waitIn 35 = .ok (.return_, 1) := by decide +kernel
theorem dX6_isDone_0 : decode cX6_isDone 0 = .ok (.bipush 12, 2) := by decide +kernel
theorem dX6_isDone_2 : decode cX6_isDone 2 = .ok (.iload_n 1, 1) := by decide +kernel
theorem dX6_isDone_3 : decode cX6_isDone 3 = .ok (.imul, 1) := by decide +kernel
theorem dX6_isDone_4 : decode cX6_isDone 4 = .ok (.aload_n 0, 1) := by decide +kernel
theorem dX6_isDone_5 : decode cX6_isDone 5 = .ok (.getfield 22, 3) := by decide +kernel
theorem dX6_isDone_8 : decode cX6_isDone 8 = .ok (.bipush 20, 2) := by decide +kernel
theorem dX6_isDone_10 : decode cX6_isDone 10 = .ok (.iload_n 1, 1) := by decide +kernel
theorem dX6_isDone_11 : decode cX6_isDone 11 = .ok (.iadd, 1) := by decide +kernel
theorem dX6_isDone_12 : decode cX6_isDone 12 = .ok (.iaload, 1) := by decide +kernel
theorem dX6_isDone_13 : decode cX6_isDone 13 = .ok (.iadd, 1) := by decide +kernel
theorem dX6_isDone_14 : decode cX6_isDone 14 = .ok (.istore_n 2, 1) := by decide +kernel
theorem dX6_isDone_15 : decode cX6_isDone 15 = .ok (.aload_n 0, 1) := by decide +kernel
theorem dX6_isDone_16 : decode cX6_isDone 16 = .ok (.getfield 16, 3) := by decide +kernel
theorem dX6_isDone_19 : decode cX6_isDone 19 = .ok (.iload_n 2, 1) := by decide +kernel
theorem dX6_isDone_20 : decode cX6_isDone 20 = .ok (.iaload, 1) := by decide +kernel
theorem dX6_isDone_21 : decode cX6_isDone 21 = .ok (.istore_n 3, 1) := by decide +kernel
theorem dX6_isDone_22 : decode cX6_isDone 22 = .ok (.aload_n 0, 1) := by decide +kernel
theorem dX6_isDone_23 : decode cX6_isDone 23 = .ok (.getfield 13, 3) := by decide +kernel
theorem dX6_isDone_26 : decode cX6_isDone 26 = .ok (.iload_n 2, 1) := by decide +kernel
theorem dX6_isDone_27 : decode cX6_isDone 27 = .ok (.iaload, 1) := by decide +kernel
theorem dX6_isDone_28 : decode cX6_isDone 28 = .ok (.tableswitch 282 0 6 #[44, 122, 175, 282, 205, 226, 44], 44) := by decide +kernel
theorem dX6_isDone_72 : decode cX6_isDone 72 = .ok (.aload_n 0, 1) := by decide +kernel
theorem dX6_isDone_73 : decode cX6_isDone 73 = .ok (.getfield 22, 3) := by decide +kernel
theorem dX6_isDone_76 : decode cX6_isDone 76 = .ok (.sipush 168, 3) := by decide +kernel
theorem dX6_isDone_79 : decode cX6_isDone 79 = .ok (.iload_n 3, 1) := by decide +kernel
theorem dX6_isDone_80 : decode cX6_isDone 80 = .ok (.iadd, 1) := by decide +kernel
theorem dX6_isDone_81 : decode cX6_isDone 81 = .ok (.iaload, 1) := by decide +kernel
theorem dX6_isDone_82 : decode cX6_isDone 82 = .ok (.aload_n 0, 1) := by decide +kernel
theorem dX6_isDone_83 : decode cX6_isDone 83 = .ok (.getfield 22, 3) := by decide +kernel
theorem dX6_isDone_86 : decode cX6_isDone 86 = .ok (.sipush 164, 3) := by decide +kernel
theorem dX6_isDone_89 : decode cX6_isDone 89 = .ok (.iload_n 3, 1) := by decide +kernel
theorem dX6_isDone_90 : decode cX6_isDone 90 = .ok (.iadd, 1) := by decide +kernel
theorem dX6_isDone_91 : decode cX6_isDone 91 = .ok (.iaload, 1) := by decide +kernel
theorem dX6_isDone_92 : decode cX6_isDone 92 = .ok (.if_icmp .lt 11, 3) := by decide +kernel
theorem dX6_isDone_95 : decode cX6_isDone 95 = .ok (.aload_n 0, 1) := by decide +kernel
theorem dX6_isDone_96 : decode cX6_isDone 96 = .ok (.iload_n 1, 1) := by decide +kernel
theorem dX6_isDone_97 : decode cX6_isDone 97 = .ok (.iconst 1, 1) := by decide +kernel
theorem dX6_isDone_98 : decode cX6_isDone 98 = .ok (.invokevirtual 59, 3) := by decide +kernel
theorem dX6_isDone_101 : decode cX6_isDone 101 = .ok (.iconst 0, 1) := by decide +kernel
theorem dX6_isDone_102 : decode cX6_isDone 102 = .ok (.ireturn, 1) := by decide +kernel
theorem dX6_isDone_103 : decode cX6_isDone 103 = .ok (.aload_n 0, 1) := by decide +kernel
theorem dX6_isDone_104 : decode cX6_isDone 104 = .ok (.getfield 22, 3) := by decide +kernel
theorem dX6_isDone_107 : decode cX6_isDone 107 = .ok (.bipush 20, 2) := by decide +kernel
theorem dX6_isDone_109 : decode cX6_isDone 109 = .ok (.iload_n 1, 1) := by decide +kernel
theorem dX6_isDone_110 : decode cX6_isDone 110 = .ok (.iadd, 1) := by decide +kernel
theorem dX6_isDone_111 : decode cX6_isDone 111 = .ok (.dup2, 1) := by decide +kernel
theorem dX6_isDone_112 : decode cX6_isDone 112 = .ok (.iaload, 1) := by decide +kernel
theorem dX6_isDone_113 : decode cX6_isDone 113 = .ok (.iconst 1, 1) := by decide +kernel
theorem dX6_isDone_114 : decode cX6_isDone 114 = .ok (.iadd, 1) := by decide +kernel
theorem dX6_isDone_115 : decode cX6_isDone 115 = .ok (.iastore, 1) := by decide +kernel
theorem dX6_isDone_116 : decode cX6_isDone 116 = .ok (.aload_n 0, 1) := by decide +kernel
theorem dX6_isDone_117 : decode cX6_isDone 117 = .ok (.iload_n 3, 1) := by decide +kernel
theorem dX6_isDone_118 : decode cX6_isDone 118 = .ok (.aload_n 0, 1) := by decide +kernel
theorem dX6_isDone_119 : decode cX6_isDone 119 = .ok (.getfield 13, 3) := by decide +kernel
theorem dX6_isDone_122 : decode cX6_isDone 122 = .ok (.iload_n 2, 1) := by decide +kernel
theorem dX6_isDone_123 : decode cX6_isDone 123 = .ok (.iaload, 1) := by decide +kernel
theorem dX6_isDone_124 : decode cX6_isDone 124 = .ok (.ifCond .ne 12, 3) := by decide +kernel
theorem dX6_isDone_127 : decode cX6_isDone 127 = .ok (.aload_n 0, 1) := by decide +kernel
theorem dX6_isDone_128 : decode cX6_isDone 128 = .ok (.getfield 19, 3) := by decide +kernel
theorem dX6_isDone_131 : decode cX6_isDone 131 = .ok (.iload_n 2, 1) := by decide +kernel
theorem dX6_isDone_132 : decode cX6_isDone 132 = .ok (.iaload, 1) := by decide +kernel
theorem dX6_isDone_133 : decode cX6_isDone 133 = .ok (.goto 12, 3) := by decide +kernel
theorem dX6_isDone_136 : decode cX6_isDone 136 = .ok (.aload_n 0, 1) := by decide +kernel
theorem dX6_isDone_137 : decode cX6_isDone 137 = .ok (.getfield 22, 3) := by decide +kernel
theorem dX6_isDone_140 : decode cX6_isDone 140 = .ok (.bipush 28, 2) := by decide +kernel
theorem dX6_isDone_142 : decode cX6_isDone 142 = .ok (.iload_n 1, 1) := by decide +kernel
theorem dX6_isDone_143 : decode cX6_isDone 143 = .ok (.iadd, 1) := by decide +kernel
theorem dX6_isDone_144 : decode cX6_isDone 144 = .ok (.iaload, 1) := by decide +kernel
theorem dX6_isDone_145 : decode cX6_isDone 145 = .ok (.invokevirtual 62, 3) := by decide +kernel
theorem dX6_isDone_148 : decode cX6_isDone 148 = .ok (.iconst 1, 1) := by decide +kernel
theorem dX6_isDone_149 : decode cX6_isDone 149 = .ok (.ireturn, 1) := by decide +kernel
theorem dX6_isDone_150 : decode cX6_isDone 150 = .ok (.aload_n 0, 1) := by decide +kernel
theorem dX6_isDone_151 : decode cX6_isDone 151 = .ok (.getfield 22, 3) := by decide +kernel
theorem dX6_isDone_154 : decode cX6_isDone 154 = .ok (.sipush 168, 3) := by decide +kernel
theorem dX6_isDone_157 : decode cX6_isDone 157 = .ok (.iload_n 3, 1) := by decide +kernel
theorem dX6_isDone_158 : decode cX6_isDone 158 = .ok (.iadd, 1) := by decide +kernel
theorem dX6_isDone_159 : decode cX6_isDone 159 = .ok (.iaload, 1) := by decide +kernel
theorem dX6_isDone_160 : decode cX6_isDone 160 = .ok (.ifCond .ne 11, 3) := by decide +kernel
theorem dX6_isDone_163 : decode cX6_isDone 163 = .ok (.aload_n 0, 1) := by decide +kernel
theorem dX6_isDone_164 : decode cX6_isDone 164 = .ok (.iload_n 1, 1) := by decide +kernel
theorem dX6_isDone_165 : decode cX6_isDone 165 = .ok (.iconst 2, 1) := by decide +kernel
theorem dX6_isDone_166 : decode cX6_isDone 166 = .ok (.invokevirtual 59, 3) := by decide +kernel
theorem dX6_isDone_169 : decode cX6_isDone 169 = .ok (.iconst 0, 1) := by decide +kernel
theorem dX6_isDone_170 : decode cX6_isDone 170 = .ok (.ireturn, 1) := by decide +kernel
theorem dX6_isDone_171 : decode cX6_isDone 171 = .ok (.aload_n 0, 1) := by decide +kernel
theorem dX6_isDone_172 : decode cX6_isDone 172 = .ok (.getfield 22, 3) := by decide +kernel
theorem dX6_isDone_175 : decode cX6_isDone 175 = .ok (.bipush 20, 2) := by decide +kernel
theorem dX6_isDone_177 : decode cX6_isDone 177 = .ok (.iload_n 1, 1) := by decide +kernel
theorem dX6_isDone_178 : decode cX6_isDone 178 = .ok (.iadd, 1) := by decide +kernel
theorem dX6_isDone_179 : decode cX6_isDone 179 = .ok (.dup2, 1) := by decide +kernel
theorem dX6_isDone_180 : decode cX6_isDone 180 = .ok (.iaload, 1) := by decide +kernel
theorem dX6_isDone_181 : decode cX6_isDone 181 = .ok (.iconst 1, 1) := by decide +kernel
theorem dX6_isDone_182 : decode cX6_isDone 182 = .ok (.iadd, 1) := by decide +kernel
theorem dX6_isDone_183 : decode cX6_isDone 183 = .ok (.iastore, 1) := by decide +kernel
theorem dX6_isDone_184 : decode cX6_isDone 184 = .ok (.aload_n 0, 1) := by decide +kernel
theorem dX6_isDone_185 : decode cX6_isDone 185 = .ok (.getfield 22, 3) := by decide +kernel
theorem dX6_isDone_188 : decode cX6_isDone 188 = .ok (.bipush 28, 2) := by decide +kernel
theorem dX6_isDone_190 : decode cX6_isDone 190 = .ok (.iload_n 1, 1) := by decide +kernel
theorem dX6_isDone_191 : decode cX6_isDone 191 = .ok (.iadd, 1) := by decide +kernel
theorem dX6_isDone_192 : decode cX6_isDone 192 = .ok (.dup2, 1) := by decide +kernel
theorem dX6_isDone_193 : decode cX6_isDone 193 = .ok (.iaload, 1) := by decide +kernel
theorem dX6_isDone_194 : decode cX6_isDone 194 = .ok (.aload_n 0, 1) := by decide +kernel
theorem dX6_isDone_195 : decode cX6_isDone 195 = .ok (.iload_n 3, 1) := by decide +kernel
theorem dX6_isDone_196 : decode cX6_isDone 196 = .ok (.invokevirtual 65, 3) := by decide +kernel
theorem dX6_isDone_199 : decode cX6_isDone 199 = .ok (.iadd, 1) := by decide +kernel
theorem dX6_isDone_200 : decode cX6_isDone 200 = .ok (.iastore, 1) := by decide +kernel
theorem dX6_isDone_201 : decode cX6_isDone 201 = .ok (.iconst 1, 1) := by decide +kernel
theorem dX6_isDone_202 : decode cX6_isDone 202 = .ok (.ireturn, 1) := by decide +kernel
theorem dX6_isDone_203 : decode cX6_isDone 203 = .ok (.aload_n 0, 1) := by decide +kernel
theorem dX6_isDone_204 : decode cX6_isDone 204 = .ok (.getfield 22, 3) := by decide +kernel
theorem dX6_isDone_207 : decode cX6_isDone 207 = .ok (.bipush 12, 2) := by decide +kernel
theorem dX6_isDone_209 : decode cX6_isDone 209 = .ok (.iload_n 1, 1) := by decide +kernel
theorem dX6_isDone_210 : decode cX6_isDone 210 = .ok (.iadd, 1) := by decide +kernel
theorem dX6_isDone_211 : decode cX6_isDone 211 = .ok (.iconst 3, 1) := by decide +kernel
theorem dX6_isDone_212 : decode cX6_isDone 212 = .ok (.iastore, 1) := by decide +kernel
theorem dX6_isDone_213 : decode cX6_isDone 213 = .ok (.aload_n 0, 1) := by decide +kernel
theorem dX6_isDone_214 : decode cX6_isDone 214 = .ok (.getfield 22, 3) := by decide +kernel
theorem dX6_isDone_217 : decode cX6_isDone 217 = .ok (.bipush 52, 2) := by decide +kernel
theorem dX6_isDone_219 : decode cX6_isDone 219 = .ok (.iload_n 1, 1) := by decide +kernel
theorem dX6_isDone_220 : decode cX6_isDone 220 = .ok (.iadd, 1) := by decide +kernel
theorem dX6_isDone_221 : decode cX6_isDone 221 = .ok (.aload_n 0, 1) := by decide +kernel
theorem dX6_isDone_222 : decode cX6_isDone 222 = .ok (.getfield 22, 3) := by decide +kernel
theorem dX6_isDone_225 : decode cX6_isDone 225 = .ok (.iconst 0, 1) := by decide +kernel
theorem dX6_isDone_226 : decode cX6_isDone 226 = .ok (.iaload, 1) := by decide +kernel
theorem dX6_isDone_227 : decode cX6_isDone 227 = .ok (.iload_n 3, 1) := by decide +kernel
theorem dX6_isDone_228 : decode cX6_isDone 228 = .ok (.iadd, 1) := by decide +kernel
theorem dX6_isDone_229 : decode cX6_isDone 229 = .ok (.iastore, 1) := by decide +kernel
theorem dX6_isDone_230 : decode cX6_isDone 230 = .ok (.goto 80, 3) := by decide +kernel
theorem dX6_isDone_233 : decode cX6_isDone 233 = .ok (.aload_n 0, 1) := by decide +kernel
theorem dX6_isDone_234 : decode cX6_isDone 234 = .ok (.getfield 22, 3) := by decide +kernel
theorem dX6_isDone_237 : decode cX6_isDone 237 = .ok (.bipush 12, 2) := by decide +kernel
theorem dX6_isDone_239 : decode cX6_isDone 239 = .ok (.iload_n 3, 1) := by decide +kernel
theorem dX6_isDone_240 : decode cX6_isDone 240 = .ok (.iadd, 1) := by decide +kernel
theorem dX6_isDone_241 : decode cX6_isDone 241 = .ok (.iaload, 1) := by decide +kernel
theorem dX6_isDone_242 : decode cX6_isDone 242 = .ok (.iconst 5, 1) := by decide +kernel
theorem dX6_isDone_243 : decode cX6_isDone 243 = .ok (.if_icmp .eq 67, 3) := by decide +kernel
theorem dX6_isDone_246 : decode cX6_isDone 246 = .ok (.aload_n 0, 1) := by decide +kernel
theorem dX6_isDone_247 : decode cX6_isDone 247 = .ok (.iload_n 1, 1) := by decide +kernel
theorem dX6_isDone_248 : decode cX6_isDone 248 = .ok (.iconst 4, 1) := by decide +kernel
theorem dX6_isDone_249 : decode cX6_isDone 249 = .ok (.invokevirtual 59, 3) := by decide +kernel
theorem dX6_isDone_252 : decode cX6_isDone 252 = .ok (.iconst 0, 1) := by decide +kernel
theorem dX6_isDone_253 : decode cX6_isDone 253 = .ok (.ireturn, 1) := by decide +kernel
theorem dX6_isDone_254 : decode cX6_isDone 254 = .ok (.aload_n 0, 1) := by decide +kernel
theorem dX6_isDone_255 : decode cX6_isDone 255 = .ok (.getfield 22, 3) := by decide +kernel
theorem dX6_isDone_258 : decode cX6_isDone 258 = .ok (.bipush 68, 2) := by decide +kernel
theorem dX6_isDone_260 : decode cX6_isDone 260 = .ok (.iload_n 2, 1) := by decide +kernel
theorem dX6_isDone_261 : decode cX6_isDone 261 = .ok (.iadd, 1) := by decide +kernel
theorem dX6_isDone_262 : decode cX6_isDone 262 = .ok (.iaload, 1) := by decide +kernel
theorem dX6_isDone_263 : decode cX6_isDone 263 = .ok (.aload_n 0, 1) := by decide +kernel
theorem dX6_isDone_264 : decode cX6_isDone 264 = .ok (.getfield 19, 3) := by decide +kernel
theorem dX6_isDone_267 : decode cX6_isDone 267 = .ok (.iload_n 2, 1) := by decide +kernel
theorem dX6_isDone_268 : decode cX6_isDone 268 = .ok (.iaload, 1) := by decide +kernel
theorem dX6_isDone_269 : decode cX6_isDone 269 = .ok (.if_icmp .ge 28, 3) := by decide +kernel
theorem dX6_isDone_272 : decode cX6_isDone 272 = .ok (.aload_n 0, 1) := by decide +kernel
theorem dX6_isDone_273 : decode cX6_isDone 273 = .ok (.getfield 22, 3) := by decide +kernel
theorem dX6_isDone_276 : decode cX6_isDone 276 = .ok (.bipush 68, 2) := by decide +kernel
theorem dX6_isDone_278 : decode cX6_isDone 278 = .ok (.iload_n 2, 1) := by decide +kernel
theorem dX6_isDone_279 : decode cX6_isDone 279 = .ok (.iadd, 1) := by decide +kernel
theorem dX6_isDone_280 : decode cX6_isDone 280 = .ok (.dup2, 1) := by decide +kernel
theorem dX6_isDone_281 : decode cX6_isDone 281 = .ok (.iaload, 1) := by decide +kernel
theorem dX6_isDone_282 : decode cX6_isDone 282 = .ok (.iconst 1, 1) := by decide +kernel
theorem dX6_isDone_283 : decode cX6_isDone 283 = .ok (.iadd, 1) := by decide +kernel
theorem dX6_isDone_284 : decode cX6_isDone 284 = .ok (.iastore, 1) := by decide +kernel
theorem dX6_isDone_285 : decode cX6_isDone 285 = .ok (.aload_n 0, 1) := by decide +kernel
theorem dX6_isDone_286 : decode cX6_isDone 286 = .ok (.getfield 22, 3) := by decide +kernel
theorem dX6_isDone_289 : decode cX6_isDone 289 = .ok (.bipush 20, 2) := by decide +kernel
theorem dX6_isDone_291 : decode cX6_isDone 291 = .ok (.iload_n 1, 1) := by decide +kernel
theorem dX6_isDone_292 : decode cX6_isDone 292 = .ok (.iadd, 1) := by decide +kernel
theorem dX6_isDone_293 : decode cX6_isDone 293 = .ok (.iload_n 3, 1) := by decide +kernel
theorem dX6_isDone_294 : decode cX6_isDone 294 = .ok (.iastore, 1) := by decide +kernel
theorem dX6_isDone_295 : decode cX6_isDone 295 = .ok (.iconst 1, 1) := by decide +kernel
theorem dX6_isDone_296 : decode cX6_isDone 296 = .ok (.ireturn, 1) := by decide +kernel
theorem dX6_isDone_297 : decode cX6_isDone 297 = .ok (.aload_n 0, 1) := by decide +kernel
theorem dX6_isDone_298 : decode cX6_isDone 298 = .ok (.getfield 22, 3) := by decide +kernel
theorem dX6_isDone_301 : decode cX6_isDone 301 = .ok (.bipush 68, 2) := by decide +kernel
theorem dX6_isDone_303 : decode cX6_isDone 303 = .ok (.iload_n 2, 1) := by decide +kernel
theorem dX6_isDone_304 : decode cX6_isDone 304 = .ok (.iadd, 1) := by decide +kernel
theorem dX6_isDone_305 : decode cX6_isDone 305 = .ok (.iconst 0, 1) := by decide +kernel
theorem dX6_isDone_306 : decode cX6_isDone 306 = .ok (.iastore, 1) := by decide +kernel
theorem dX6_isDone_307 : decode cX6_isDone 307 = .ok (.goto 3, 3) := by decide +kernel
theorem dX6_isDone_310 : decode cX6_isDone 310 = .ok (.aload_n 0, 1) := by decide +kernel
theorem dX6_isDone_311 : decode cX6_isDone 311 = .ok (.getfield 22, 3) := by decide +kernel
theorem dX6_isDone_314 : decode cX6_isDone 314 = .ok (.bipush 20, 2) := by decide +kernel
theorem dX6_isDone_316 : decode cX6_isDone 316 = .ok (.iload_n 1, 1) := by decide +kernel
theorem dX6_isDone_317 : decode cX6_isDone 317 = .ok (.iadd, 1) := by decide +kernel
theorem dX6_isDone_318 : decode cX6_isDone 318 = .ok (.dup2, 1) := by decide +kernel
theorem dX6_isDone_319 : decode cX6_isDone 319 = .ok (.iaload, 1) := by decide +kernel
theorem dX6_isDone_320 : decode cX6_isDone 320 = .ok (.iconst 1, 1) := by decide +kernel
theorem dX6_isDone_321 : decode cX6_isDone 321 = .ok (.iadd, 1) := by decide +kernel
theorem dX6_isDone_322 : decode cX6_isDone 322 = .ok (.iastore, 1) := by decide +kernel
theorem dX6_isDone_323 : decode cX6_isDone 323 = .ok (.iconst 1, 1) := by decide +kernel
theorem dX6_isDone_324 : decode cX6_isDone 324 = .ok (.ireturn, 1) := by decide +kernel
theorem dX6_done_0 : decode cX6_done 0 = .ok (.aload_n 0, 1) := by decide +kernel
theorem dX6_done_1 : decode cX6_done 1 = .ok (.getfield 22, 3) := by decide +kernel
theorem dX6_done_4 : decode cX6_done 4 = .ok (.bipush 12, 2) := by decide +kernel
theorem dX6_done_6 : decode cX6_done 6 = .ok (.iload_n 1, 1) := by decide +kernel
theorem dX6_done_7 : decode cX6_done 7 = .ok (.iadd, 1) := by decide +kernel
theorem dX6_done_8 : decode cX6_done 8 = .ok (.iconst 5, 1) := by decide +kernel
theorem dX6_done_9 : decode cX6_done 9 = .ok (.iastore, 1) := by decide +kernel
theorem dX6_done_10 : decode cX6_done 10 = .ok (.iconst 0, 1) := by decide +kernel
theorem dX6_done_11 : decode cX6_done 11 = .ok (.istore_n 2, 1) := by decide +kernel
theorem dX6_done_12 : decode cX6_done 12 = .ok (.iload_n 2, 1) := by decide +kernel
theorem dX6_done_13 : decode cX6_done 13 = .ok (.aload_n 0, 1) := by decide +kernel
theorem dX6_done_14 : decode cX6_done 14 = .ok (.getfield 39, 3) := by decide +kernel
theorem dX6_done_17 : decode cX6_done 17 = .ok (.if_icmp .ge 24, 3) := by decide +kernel
theorem dX6_done_20 : decode cX6_done 20 = .ok (.aload_n 0, 1) := by decide +kernel
theorem dX6_done_21 : decode cX6_done 21 = .ok (.iload_n 2, 1) := by decide +kernel
theorem dX6_done_22 : decode cX6_done 22 = .ok (.iconst 4, 1) := by decide +kernel
theorem dX6_done_23 : decode cX6_done 23 = .ok (.iload_n 1, 1) := by decide +kernel
theorem dX6_done_24 : decode cX6_done 24 = .ok (.invokevirtual 48, 3) := by decide +kernel
theorem dX6_done_27 : decode cX6_done 27 = .ok (.ifCond .eq 8, 3) := by decide +kernel
theorem dX6_done_30 : decode cX6_done 30 = .ok (.aload_n 0, 1) := by decide +kernel
theorem dX6_done_31 : decode cX6_done 31 = .ok (.iload_n 2, 1) := by decide +kernel
theorem dX6_done_32 : decode cX6_done 32 = .ok (.invokevirtual 51, 3) := by decide +kernel
theorem dX6_done_35 : decode cX6_done 35 = .ok (.iinc 2 1, 3) := by decide +kernel
theorem dX6_done_38 : decode cX6_done 38 = .ok (.goto (-26), 3) := by decide +kernel
theorem dX6_done_41 : decode cX6_done 41 = .ok (.return_, 1) := by decide +kernel
theorem dX6_go_0 : decode cX6_go 0 = .ok (.aload_n 0, 1) := by decide +kernel
theorem dX6_go_1 : decode cX6_go 1 = .ok (.getfield 22, 3) := by decide +kernel
theorem dX6_go_4 : decode cX6_go 4 = .ok (.bipush 44, 2) := by decide +kernel
theorem dX6_go_6 : decode cX6_go 6 = .ok (.iload_n 1, 1) := by decide +kernel
theorem dX6_go_7 : decode cX6_go 7 = .ok (.iadd, 1) := by decide +kernel
theorem dX6_go_8 : decode cX6_go 8 = .ok (.dup2, 1) := by decide +kernel
theorem dX6_go_9 : decode cX6_go 9 = .ok (.iaload, 1) := by decide +kernel
theorem dX6_go_10 : decode cX6_go 10 = .ok (.iconst 1, 1) := by decide +kernel
theorem dX6_go_11 : decode cX6_go 11 = .ok (.iadd, 1) := by decide +kernel
theorem dX6_go_12 : decode cX6_go 12 = .ok (.iastore, 1) := by decide +kernel
theorem dX6_go_13 : decode cX6_go 13 = .ok (.iconst 0, 1) := by decide +kernel
theorem dX6_go_14 : decode cX6_go 14 = .ok (.istore_n 2, 1) := by decide +kernel
theorem dX6_go_15 : decode cX6_go 15 = .ok (.iconst 1, 1) := by decide +kernel
theorem dX6_go_16 : decode cX6_go 16 = .ok (.istore_n 3, 1) := by decide +kernel
theorem dX6_go_17 : decode cX6_go 17 = .ok (.iload_n 3, 1) := by decide +kernel
theorem dX6_go_18 : decode cX6_go 18 = .ok (.ifCond .eq 86, 3) := by decide +kernel
theorem dX6_go_21 : decode cX6_go 21 = .ok (.iload_n 2, 1) := by decide +kernel
theorem dX6_go_22 : decode cX6_go 22 = .ok (.iconst 4, 1) := by decide +kernel
theorem dX6_go_23 : decode cX6_go 23 = .ok (.if_icmp .ge 81, 3) := by decide +kernel
theorem dX6_go_26 : decode cX6_go 26 = .ok (.aload_n 0, 1) := by decide +kernel
theorem dX6_go_27 : decode cX6_go 27 = .ok (.getfield 22, 3) := by decide +kernel
theorem dX6_go_30 : decode cX6_go 30 = .ok (.bipush 12, 2) := by decide +kernel
theorem dX6_go_32 : decode cX6_go 32 = .ok (.iload_n 1, 1) := by decide +kernel
theorem dX6_go_33 : decode cX6_go 33 = .ok (.iadd, 1) := by decide +kernel
theorem dX6_go_34 : decode cX6_go 34 = .ok (.iaload, 1) := by decide +kernel
theorem dX6_go_35 : decode cX6_go 35 = .ok (.ifCond .ne 69, 3) := by decide +kernel
theorem dX6_go_38 : decode cX6_go 38 = .ok (.aload_n 0, 1) := by decide +kernel
theorem dX6_go_39 : decode cX6_go 39 = .ok (.getfield 22, 3) := by decide +kernel
theorem dX6_go_42 : decode cX6_go 42 = .ok (.bipush 20, 2) := by decide +kernel
theorem dX6_go_44 : decode cX6_go 44 = .ok (.iload_n 1, 1) := by decide +kernel
theorem dX6_go_45 : decode cX6_go 45 = .ok (.iadd, 1) := by decide +kernel
theorem dX6_go_46 : decode cX6_go 46 = .ok (.iaload, 1) := by decide +kernel
theorem dX6_go_47 : decode cX6_go 47 = .ok (.aload_n 0, 1) := by decide +kernel
theorem dX6_go_48 : decode cX6_go 48 = .ok (.getfield 9, 3) := by decide +kernel
theorem dX6_go_51 : decode cX6_go 51 = .ok (.iload_n 1, 1) := by decide +kernel
theorem dX6_go_52 : decode cX6_go 52 = .ok (.iaload, 1) := by decide +kernel
theorem dX6_go_53 : decode cX6_go 53 = .ok (.if_icmp .ge 51, 3) := by decide +kernel
theorem dX6_go_56 : decode cX6_go 56 = .ok (.aload_n 0, 1) := by decide +kernel
theorem dX6_go_57 : decode cX6_go 57 = .ok (.getfield 13, 3) := by decide +kernel
theorem dX6_go_60 : decode cX6_go 60 = .ok (.bipush 12, 2) := by decide +kernel
theorem dX6_go_62 : decode cX6_go 62 = .ok (.iload_n 1, 1) := by decide +kernel
theorem dX6_go_63 : decode cX6_go 63 = .ok (.imul, 1) := by decide +kernel
theorem dX6_go_64 : decode cX6_go 64 = .ok (.aload_n 0, 1) := by decide +kernel
theorem dX6_go_65 : decode cX6_go 65 = .ok (.getfield 22, 3) := by decide +kernel
theorem dX6_go_68 : decode cX6_go 68 = .ok (.bipush 20, 2) := by decide +kernel
theorem dX6_go_70 : decode cX6_go 70 = .ok (.iload_n 1, 1) := by decide +kernel
theorem dX6_go_71 : decode cX6_go 71 = .ok (.iadd, 1) := by decide +kernel
theorem dX6_go_72 : decode cX6_go 72 = .ok (.iaload, 1) := by decide +kernel
theorem dX6_go_73 : decode cX6_go 73 = .ok (.iadd, 1) := by decide +kernel
theorem dX6_go_74 : decode cX6_go 74 = .ok (.iaload, 1) := by decide +kernel
theorem dX6_go_75 : decode cX6_go 75 = .ok (.iconst 3, 1) := by decide +kernel
theorem dX6_go_76 : decode cX6_go 76 = .ok (.if_icmp .eq 7, 3) := by decide +kernel
theorem dX6_go_79 : decode cX6_go 79 = .ok (.iconst 1, 1) := by decide +kernel
theorem dX6_go_80 : decode cX6_go 80 = .ok (.goto 4, 3) := by decide +kernel
theorem dX6_go_83 : decode cX6_go 83 = .ok (.iconst 0, 1) := by decide +kernel
theorem dX6_go_84 : decode cX6_go 84 = .ok (.istore_n 3, 1) := by decide +kernel
theorem dX6_go_85 : decode cX6_go 85 = .ok (.iload_n 2, 1) := by decide +kernel
theorem dX6_go_86 : decode cX6_go 86 = .ok (.aload_n 0, 1) := by decide +kernel
theorem dX6_go_87 : decode cX6_go 87 = .ok (.iload_n 1, 1) := by decide +kernel
theorem dX6_go_88 : decode cX6_go 88 = .ok (.invokevirtual 69, 3) := by decide +kernel
theorem dX6_go_91 : decode cX6_go 91 = .ok (.ifCond .eq 7, 3) := by decide +kernel
theorem dX6_go_94 : decode cX6_go 94 = .ok (.iconst 1, 1) := by decide +kernel
theorem dX6_go_95 : decode cX6_go 95 = .ok (.goto 4, 3) := by decide +kernel
theorem dX6_go_98 : decode cX6_go 98 = .ok (.iconst 0, 1) := by decide +kernel
theorem dX6_go_99 : decode cX6_go 99 = .ok (.iadd, 1) := by decide +kernel
theorem dX6_go_100 : decode cX6_go 100 = .ok (.istore_n 2, 1) := by decide +kernel
theorem dX6_go_101 : decode cX6_go 101 = .ok (.goto (-84), 3) := by decide +kernel
theorem dX6_go_104 : decode cX6_go 104 = .ok (.aload_n 0, 1) := by decide +kernel
theorem dX6_go_105 : decode cX6_go 105 = .ok (.getfield 22, 3) := by decide +kernel
theorem dX6_go_108 : decode cX6_go 108 = .ok (.bipush 36, 2) := by decide +kernel
theorem dX6_go_110 : decode cX6_go 110 = .ok (.iload_n 1, 1) := by decide +kernel
theorem dX6_go_111 : decode cX6_go 111 = .ok (.iadd, 1) := by decide +kernel
theorem dX6_go_112 : decode cX6_go 112 = .ok (.dup2, 1) := by decide +kernel
theorem dX6_go_113 : decode cX6_go 113 = .ok (.iaload, 1) := by decide +kernel
theorem dX6_go_114 : decode cX6_go 114 = .ok (.iload_n 2, 1) := by decide +kernel
theorem dX6_go_115 : decode cX6_go 115 = .ok (.iadd, 1) := by decide +kernel
theorem dX6_go_116 : decode cX6_go 116 = .ok (.iastore, 1) := by decide +kernel
theorem dX6_go_117 : decode cX6_go 117 = .ok (.aload_n 0, 1) := by decide +kernel
theorem dX6_go_118 : decode cX6_go 118 = .ok (.getfield 22, 3) := by decide +kernel
theorem dX6_go_121 : decode cX6_go 121 = .ok (.bipush 12, 2) := by decide +kernel
theorem dX6_go_123 : decode cX6_go 123 = .ok (.iload_n 1, 1) := by decide +kernel
theorem dX6_go_124 : decode cX6_go 124 = .ok (.iadd, 1) := by decide +kernel
theorem dX6_go_125 : decode cX6_go 125 = .ok (.iaload, 1) := by decide +kernel
theorem dX6_go_126 : decode cX6_go 126 = .ok (.ifCond .eq 4, 3) := by decide +kernel
theorem dX6_go_129 : decode cX6_go 129 = .ok (.return_, 1) := by decide +kernel
theorem dX6_go_130 : decode cX6_go 130 = .ok (.aload_n 0, 1) := by decide +kernel
theorem dX6_go_131 : decode cX6_go 131 = .ok (.getfield 22, 3) := by decide +kernel
theorem dX6_go_134 : decode cX6_go 134 = .ok (.bipush 20, 2) := by decide +kernel
theorem dX6_go_136 : decode cX6_go 136 = .ok (.iload_n 1, 1) := by decide +kernel
theorem dX6_go_137 : decode cX6_go 137 = .ok (.iadd, 1) := by decide +kernel
theorem dX6_go_138 : decode cX6_go 138 = .ok (.iaload, 1) := by decide +kernel
theorem dX6_go_139 : decode cX6_go 139 = .ok (.aload_n 0, 1) := by decide +kernel
theorem dX6_go_140 : decode cX6_go 140 = .ok (.getfield 9, 3) := by decide +kernel
theorem dX6_go_143 : decode cX6_go 143 = .ok (.iload_n 1, 1) := by decide +kernel
theorem dX6_go_144 : decode cX6_go 144 = .ok (.iaload, 1) := by decide +kernel
theorem dX6_go_145 : decode cX6_go 145 = .ok (.if_icmp .ne 11, 3) := by decide +kernel
theorem dX6_go_148 : decode cX6_go 148 = .ok (.aload_n 0, 1) := by decide +kernel
theorem dX6_go_149 : decode cX6_go 149 = .ok (.iload_n 1, 1) := by decide +kernel
theorem dX6_go_150 : decode cX6_go 150 = .ok (.invokevirtual 73, 3) := by decide +kernel
theorem dX6_go_153 : decode cX6_go 153 = .ok (.goto 8, 3) := by decide +kernel
theorem dX6_go_156 : decode cX6_go 156 = .ok (.aload_n 0, 1) := by decide +kernel
theorem dX6_go_157 : decode cX6_go 157 = .ok (.iload_n 1, 1) := by decide +kernel
theorem dX6_go_158 : decode cX6_go 158 = .ok (.invokevirtual 51, 3) := by decide +kernel
theorem dX6_go_161 : decode cX6_go 161 = .ok (.return_, 1) := by decide +kernel
theorem dX6_turnOn_0 : decode cX6_turnOn 0 = .ok (.iconst 0, 1) := by decide +kernel
theorem dX6_turnOn_1 : decode cX6_turnOn 1 = .ok (.istore_n 1, 1) := by decide +kernel
theorem dX6_turnOn_2 : decode cX6_turnOn 2 = .ok (.iload_n 1, 1) := by decide +kernel
theorem dX6_turnOn_3 : decode cX6_turnOn 3 = .ok (.aload_n 0, 1) := by decide +kernel
theorem dX6_turnOn_4 : decode cX6_turnOn 4 = .ok (.getfield 39, 3) := by decide +kernel
theorem dX6_turnOn_7 : decode cX6_turnOn 7 = .ok (.if_icmp .ge 45, 3) := by decide +kernel
theorem dX6_turnOn_10 : decode cX6_turnOn 10 = .ok (.aload_n 0, 1) := by decide +kernel
theorem dX6_turnOn_11 : decode cX6_turnOn 11 = .ok (.getfield 22, 3) := by decide +kernel
theorem dX6_turnOn_14 : decode cX6_turnOn 14 = .ok (.bipush 12, 2) := by decide +kernel
theorem dX6_turnOn_16 : decode cX6_turnOn 16 = .ok (.iload_n 1, 1) := by decide +kernel
theorem dX6_turnOn_17 : decode cX6_turnOn 17 = .ok (.iadd, 1) := by decide +kernel
theorem dX6_turnOn_18 : decode cX6_turnOn 18 = .ok (.iaload, 1) := by decide +kernel
theorem dX6_turnOn_19 : decode cX6_turnOn 19 = .ok (.iconst 3, 1) := by decide +kernel
theorem dX6_turnOn_20 : decode cX6_turnOn 20 = .ok (.if_icmp .ne 26, 3) := by decide +kernel
theorem dX6_turnOn_23 : decode cX6_turnOn 23 = .ok (.aload_n 0, 1) := by decide +kernel
theorem dX6_turnOn_24 : decode cX6_turnOn 24 = .ok (.getfield 22, 3) := by decide +kernel
theorem dX6_turnOn_27 : decode cX6_turnOn 27 = .ok (.bipush 52, 2) := by decide +kernel
theorem dX6_turnOn_29 : decode cX6_turnOn 29 = .ok (.iload_n 1, 1) := by decide +kernel
theorem dX6_turnOn_30 : decode cX6_turnOn 30 = .ok (.iadd, 1) := by decide +kernel
theorem dX6_turnOn_31 : decode cX6_turnOn 31 = .ok (.iaload, 1) := by decide +kernel
theorem dX6_turnOn_32 : decode cX6_turnOn 32 = .ok (.aload_n 0, 1) := by decide +kernel
theorem dX6_turnOn_33 : decode cX6_turnOn 33 = .ok (.getfield 22, 3) := by decide +kernel
theorem dX6_turnOn_36 : decode cX6_turnOn 36 = .ok (.iconst 0, 1) := by decide +kernel
theorem dX6_turnOn_37 : decode cX6_turnOn 37 = .ok (.iaload, 1) := by decide +kernel
theorem dX6_turnOn_38 : decode cX6_turnOn 38 = .ok (.if_icmp .ne 8, 3) := by decide +kernel
theorem dX6_turnOn_41 : decode cX6_turnOn 41 = .ok (.aload_n 0, 1) := by decide +kernel
theorem dX6_turnOn_42 : decode cX6_turnOn 42 = .ok (.iload_n 1, 1) := by decide +kernel
theorem dX6_turnOn_43 : decode cX6_turnOn 43 = .ok (.invokevirtual 51, 3) := by decide +kernel
theorem dX6_turnOn_46 : decode cX6_turnOn 46 = .ok (.iinc 1 1, 3) := by decide +kernel
theorem dX6_turnOn_49 : decode cX6_turnOn 49 = .ok (.goto (-47), 3) := by decide +kernel
theorem dX6_turnOn_52 : decode cX6_turnOn 52 = .ok (.aload_n 0, 1) := by decide +kernel
theorem dX6_turnOn_53 : decode cX6_turnOn 53 = .ok (.getfield 22, 3) := by decide +kernel
theorem dX6_turnOn_56 : decode cX6_turnOn 56 = .ok (.iconst 3, 1) := by decide +kernel
theorem dX6_turnOn_57 : decode cX6_turnOn 57 = .ok (.iaload, 1) := by decide +kernel
theorem dX6_turnOn_58 : decode cX6_turnOn 58 = .ok (.ifCond .ne 16, 3) := by decide +kernel
theorem dX6_turnOn_61 : decode cX6_turnOn 61 = .ok (.aload_n 0, 1) := by decide +kernel
theorem dX6_turnOn_62 : decode cX6_turnOn 62 = .ok (.getfield 22, 3) := by decide +kernel
theorem dX6_turnOn_65 : decode cX6_turnOn 65 = .ok (.iconst 1, 1) := by decide +kernel
theorem dX6_turnOn_66 : decode cX6_turnOn 66 = .ok (.dup2, 1) := by decide +kernel
theorem dX6_turnOn_67 : decode cX6_turnOn 67 = .ok (.iaload, 1) := by decide +kernel
theorem dX6_turnOn_68 : decode cX6_turnOn 68 = .ok (.iconst 1, 1) := by decide +kernel
theorem dX6_turnOn_69 : decode cX6_turnOn 69 = .ok (.iadd, 1) := by decide +kernel
theorem dX6_turnOn_70 : decode cX6_turnOn 70 = .ok (.iastore, 1) := by decide +kernel
theorem dX6_turnOn_71 : decode cX6_turnOn 71 = .ok (.goto 44, 3) := by decide +kernel
theorem dX6_turnOn_74 : decode cX6_turnOn 74 = .ok (.aload_n 0, 1) := by decide +kernel
theorem dX6_turnOn_75 : decode cX6_turnOn 75 = .ok (.getfield 22, 3) := by decide +kernel
theorem dX6_turnOn_78 : decode cX6_turnOn 78 = .ok (.iconst 4, 1) := by decide +kernel
theorem dX6_turnOn_79 : decode cX6_turnOn 79 = .ok (.iaload, 1) := by decide +kernel
theorem dX6_turnOn_80 : decode cX6_turnOn 80 = .ok (.istore_n 1, 1) := by decide +kernel
theorem dX6_turnOn_81 : decode cX6_turnOn 81 = .ok (.aload_n 0, 1) := by decide +kernel
theorem dX6_turnOn_82 : decode cX6_turnOn 82 = .ok (.getfield 22, 3) := by decide +kernel
theorem dX6_turnOn_85 : decode cX6_turnOn 85 = .ok (.iconst 3, 1) := by decide +kernel
theorem dX6_turnOn_86 : decode cX6_turnOn 86 = .ok (.dup2, 1) := by decide +kernel
theorem dX6_turnOn_87 : decode cX6_turnOn 87 = .ok (.iaload, 1) := by decide +kernel
theorem dX6_turnOn_88 : decode cX6_turnOn 88 = .ok (.iconst 1, 1) := by decide +kernel
theorem dX6_turnOn_89 : decode cX6_turnOn 89 = .ok (.isub, 1) := by decide +kernel
theorem dX6_turnOn_90 : decode cX6_turnOn 90 = .ok (.iastore, 1) := by decide +kernel
theorem dX6_turnOn_91 : decode cX6_turnOn 91 = .ok (.aload_n 0, 1) := by decide +kernel
theorem dX6_turnOn_92 : decode cX6_turnOn 92 = .ok (.getfield 22, 3) := by decide +kernel
theorem dX6_turnOn_95 : decode cX6_turnOn 95 = .ok (.iconst 5, 1) := by decide +kernel
theorem dX6_turnOn_96 : decode cX6_turnOn 96 = .ok (.aload_n 0, 1) := by decide +kernel
theorem dX6_turnOn_97 : decode cX6_turnOn 97 = .ok (.getfield 22, 3) := by decide +kernel
theorem dX6_turnOn_100 : decode cX6_turnOn 100 = .ok (.iconst 4, 1) := by decide +kernel
theorem dX6_turnOn_101 : decode cX6_turnOn 101 = .ok (.aload_n 0, 1) := by decide +kernel
theorem dX6_turnOn_102 : decode cX6_turnOn 102 = .ok (.getfield 22, 3) := by decide +kernel
theorem dX6_turnOn_105 : decode cX6_turnOn 105 = .ok (.iconst 3, 1) := by decide +kernel
theorem dX6_turnOn_106 : decode cX6_turnOn 106 = .ok (.iaload, 1) := by decide +kernel
theorem dX6_turnOn_107 : decode cX6_turnOn 107 = .ok (.invokestatic 42, 3) := by decide +kernel
theorem dX6_turnOn_110 : decode cX6_turnOn 110 = .ok (.aload_n 0, 1) := by decide +kernel
theorem dX6_turnOn_111 : decode cX6_turnOn 111 = .ok (.iload_n 1, 1) := by decide +kernel
theorem dX6_turnOn_112 : decode cX6_turnOn 112 = .ok (.invokevirtual 76, 3) := by decide +kernel
theorem dX6_turnOn_115 : decode cX6_turnOn 115 = .ok (.aload_n 0, 1) := by decide +kernel
theorem dX6_turnOn_116 : decode cX6_turnOn 116 = .ok (.getfield 22, 3) := by decide +kernel
theorem dX6_turnOn_119 : decode cX6_turnOn 119 = .ok (.iconst 0, 1) := by decide +kernel
theorem dX6_turnOn_120 : decode cX6_turnOn 120 = .ok (.dup2, 1) := by decide +kernel
theorem dX6_turnOn_121 : decode cX6_turnOn 121 = .ok (.iaload, 1) := by decide +kernel
theorem dX6_turnOn_122 : decode cX6_turnOn 122 = .ok (.iconst 1, 1) := by decide +kernel
theorem dX6_turnOn_123 : decode cX6_turnOn 123 = .ok (.iadd, 1) := by decide +kernel
theorem dX6_turnOn_124 : decode cX6_turnOn 124 = .ok (.iastore, 1) := by decide +kernel
theorem dX6_turnOn_125 : decode cX6_turnOn 125 = .ok (.return_, 1) := by decide +kernel
theorem dX6_addChannel_0 : decode cX6_addChannel 0 = .ok (.aload_n 0, 1) := by decide +kernel
theorem dX6_addChannel_1 : decode cX6_addChannel 1 = .ok (.iconst 0, 1) := by decide +kernel
theorem dX6_addChannel_2 : decode cX6_addChannel 2 = .ok (.putfield 28, 3) := by decide +kernel
theorem dX6_addChannel_5 : decode cX6_addChannel 5 = .ok (.iload_n 1, 1) := by decide +kernel
theorem dX6_addChannel_6 : decode cX6_addChannel 6 = .ok (.iconst 1, 1) := by decide +kernel
theorem dX6_addChannel_7 : decode cX6_addChannel 7 = .ok (.iconst 4, 1) := by decide +kernel
theorem dX6_addChannel_8 : decode cX6_addChannel 8 = .ok (.invokestatic 35, 3) := by decide +kernel
theorem dX6_addChannel_11 : decode cX6_addChannel 11 = .ok (.ifCond .ne 9, 3) := by decide +kernel
theorem dX6_addChannel_14 : decode cX6_addChannel 14 = .ok (.aload_n 0, 1) := by decide +kernel
theorem dX6_addChannel_15 : decode cX6_addChannel 15 = .ok (.iconst 1, 1) := by decide +kernel
theorem dX6_addChannel_16 : decode cX6_addChannel 16 = .ok (.invokevirtual 79, 3) := by decide +kernel
theorem dX6_addChannel_19 : decode cX6_addChannel 19 = .ok (.ireturn, 1) := by decide +kernel
theorem dX6_addChannel_20 : decode cX6_addChannel 20 = .ok (.aload_n 0, 1) := by decide +kernel
theorem dX6_addChannel_21 : decode cX6_addChannel 21 = .ok (.getfield 32, 3) := by decide +kernel
theorem dX6_addChannel_24 : decode cX6_addChannel 24 = .ok (.iconst 4, 1) := by decide +kernel
theorem dX6_addChannel_25 : decode cX6_addChannel 25 = .ok (.if_icmp .ne 9, 3) := by decide +kernel
theorem dX6_addChannel_28 : decode cX6_addChannel 28 = .ok (.aload_n 0, 1) := by decide +kernel
theorem dX6_addChannel_29 : decode cX6_addChannel 29 = .ok (.iconst 2, 1) := by decide +kernel
theorem dX6_addChannel_30 : decode cX6_addChannel 30 = .ok (.invokevirtual 79, 3) := by decide +kernel
theorem dX6_addChannel_33 : decode cX6_addChannel 33 = .ok (.ireturn, 1) := by decide +kernel
theorem dX6_addChannel_34 : decode cX6_addChannel 34 = .ok (.aload_n 0, 1) := by decide +kernel
theorem dX6_addChannel_35 : decode cX6_addChannel 35 = .ok (.getfield 22, 3) := by decide +kernel
theorem dX6_addChannel_38 : decode cX6_addChannel 38 = .ok (.sipush 164, 3) := by decide +kernel
theorem dX6_addChannel_41 : decode cX6_addChannel 41 = .ok (.aload_n 0, 1) := by decide +kernel
theorem dX6_addChannel_42 : decode cX6_addChannel 42 = .ok (.getfield 32, 3) := by decide +kernel
theorem dX6_addChannel_45 : decode cX6_addChannel 45 = .ok (.iadd, 1) := by decide +kernel
theorem dX6_addChannel_46 : decode cX6_addChannel 46 = .ok (.iload_n 1, 1) := by decide +kernel
theorem dX6_addChannel_47 : decode cX6_addChannel 47 = .ok (.iastore, 1) := by decide +kernel
theorem dX6_addChannel_48 : decode cX6_addChannel 48 = .ok (.aload_n 0, 1) := by decide +kernel
theorem dX6_addChannel_49 : decode cX6_addChannel 49 = .ok (.dup, 1) := by decide +kernel
theorem dX6_addChannel_50 : decode cX6_addChannel 50 = .ok (.getfield 32, 3) := by decide +kernel
theorem dX6_addChannel_53 : decode cX6_addChannel 53 = .ok (.iconst 1, 1) := by decide +kernel
theorem dX6_addChannel_54 : decode cX6_addChannel 54 = .ok (.iadd, 1) := by decide +kernel
theorem dX6_addChannel_55 : decode cX6_addChannel 55 = .ok (.putfield 32, 3) := by decide +kernel
theorem dX6_addChannel_58 : decode cX6_addChannel 58 = .ok (.aload_n 0, 1) := by decide +kernel
theorem dX6_addChannel_59 : decode cX6_addChannel 59 = .ok (.getfield 32, 3) := by decide +kernel
theorem dX6_addChannel_62 : decode cX6_addChannel 62 = .ok (.iconst 1, 1) := by decide +kernel
theorem dX6_addChannel_63 : decode cX6_addChannel 63 = .ok (.isub, 1) := by decide +kernel
theorem dX6_addChannel_64 : decode cX6_addChannel 64 = .ok (.ireturn, 1) := by decide +kernel
theorem dX6_addFiber_0 : decode cX6_addFiber 0 = .ok (.aload_n 0, 1) := by decide +kernel
theorem dX6_addFiber_1 : decode cX6_addFiber 1 = .ok (.iconst 0, 1) := by decide +kernel
theorem dX6_addFiber_2 : decode cX6_addFiber 2 = .ok (.putfield 28, 3) := by decide +kernel
theorem dX6_addFiber_5 : decode cX6_addFiber 5 = .ok (.aload_n 0, 1) := by decide +kernel
theorem dX6_addFiber_6 : decode cX6_addFiber 6 = .ok (.getfield 39, 3) := by decide +kernel
theorem dX6_addFiber_9 : decode cX6_addFiber 9 = .ok (.bipush 8, 2) := by decide +kernel
theorem dX6_addFiber_11 : decode cX6_addFiber 11 = .ok (.if_icmp .ne 9, 3) := by decide +kernel
theorem dX6_addFiber_14 : decode cX6_addFiber 14 = .ok (.aload_n 0, 1) := by decide +kernel
theorem dX6_addFiber_15 : decode cX6_addFiber 15 = .ok (.iconst 1, 1) := by decide +kernel
theorem dX6_addFiber_16 : decode cX6_addFiber 16 = .ok (.invokevirtual 79, 3) := by decide +kernel
theorem dX6_addFiber_19 : decode cX6_addFiber 19 = .ok (.ireturn, 1) := by decide +kernel
theorem dX6_addFiber_20 : decode cX6_addFiber 20 = .ok (.aload_n 0, 1) := by decide +kernel
theorem dX6_addFiber_21 : decode cX6_addFiber 21 = .ok (.getfield 22, 3) := by decide +kernel
theorem dX6_addFiber_24 : decode cX6_addFiber 24 = .ok (.bipush 12, 2) := by decide +kernel
theorem dX6_addFiber_26 : decode cX6_addFiber 26 = .ok (.aload_n 0, 1) := by decide +kernel
theorem dX6_addFiber_27 : decode cX6_addFiber 27 = .ok (.getfield 39, 3) := by decide +kernel
theorem dX6_addFiber_30 : decode cX6_addFiber 30 = .ok (.iadd, 1) := by decide +kernel
theorem dX6_addFiber_31 : decode cX6_addFiber 31 = .ok (.iconst 5, 1) := by decide +kernel
theorem dX6_addFiber_32 : decode cX6_addFiber 32 = .ok (.iastore, 1) := by decide +kernel
theorem dX6_addFiber_33 : decode cX6_addFiber 33 = .ok (.aload_n 0, 1) := by decide +kernel
theorem dX6_addFiber_34 : decode cX6_addFiber 34 = .ok (.dup, 1) := by decide +kernel
theorem dX6_addFiber_35 : decode cX6_addFiber 35 = .ok (.getfield 39, 3) := by decide +kernel
theorem dX6_addFiber_38 : decode cX6_addFiber 38 = .ok (.iconst 1, 1) := by decide +kernel
theorem dX6_addFiber_39 : decode cX6_addFiber 39 = .ok (.iadd, 1) := by decide +kernel
theorem dX6_addFiber_40 : decode cX6_addFiber 40 = .ok (.putfield 39, 3) := by decide +kernel
theorem dX6_addFiber_43 : decode cX6_addFiber 43 = .ok (.aload_n 0, 1) := by decide +kernel
theorem dX6_addFiber_44 : decode cX6_addFiber 44 = .ok (.getfield 39, 3) := by decide +kernel
theorem dX6_addFiber_47 : decode cX6_addFiber 47 = .ok (.iconst 1, 1) := by decide +kernel
theorem dX6_addFiber_48 : decode cX6_addFiber 48 = .ok (.isub, 1) := by decide +kernel
theorem dX6_addFiber_49 : decode cX6_addFiber 49 = .ok (.ireturn, 1) := by decide +kernel
theorem dX6_isStep_0 : decode cX6_isStep 0 = .ok (.iload_n 2, 1) := by decide +kernel
theorem dX6_isStep_1 : decode cX6_isStep 1 = .ok (.tableswitch 135 0 6 #[43, 71, 77, 135, 85, 104, 71], 43) := by decide +kernel
theorem dX6_isStep_44 : decode cX6_isStep 44 = .ok (.aload_n 0, 1) := by decide +kernel
theorem dX6_isStep_45 : decode cX6_isStep 45 = .ok (.iload_n 3, 1) := by decide +kernel
theorem dX6_isStep_46 : decode cX6_isStep 46 = .ok (.invokevirtual 82, 3) := by decide +kernel
theorem dX6_isStep_49 : decode cX6_isStep 49 = .ok (.ifCond .eq 21, 3) := by decide +kernel
theorem dX6_isStep_52 : decode cX6_isStep 52 = .ok (.iload 4, 2) := by decide +kernel
theorem dX6_isStep_54 : decode cX6_isStep 54 = .ok (.sipush (-999), 3) := by decide +kernel
theorem dX6_isStep_57 : decode cX6_isStep 57 = .ok (.sipush 999, 3) := by decide +kernel
theorem dX6_isStep_60 : decode cX6_isStep 60 = .ok (.invokestatic 35, 3) := by decide +kernel
theorem dX6_isStep_63 : decode cX6_isStep 63 = .ok (.ifCond .eq 7, 3) := by decide +kernel
theorem dX6_isStep_66 : decode cX6_isStep 66 = .ok (.iconst 1, 1) := by decide +kernel
theorem dX6_isStep_67 : decode cX6_isStep 67 = .ok (.goto 4, 3) := by decide +kernel
theorem dX6_isStep_70 : decode cX6_isStep 70 = .ok (.iconst 0, 1) := by decide +kernel
theorem dX6_isStep_71 : decode cX6_isStep 71 = .ok (.ireturn, 1) := by decide +kernel
theorem dX6_isStep_72 : decode cX6_isStep 72 = .ok (.aload_n 0, 1) := by decide +kernel
theorem dX6_isStep_73 : decode cX6_isStep 73 = .ok (.iload_n 3, 1) := by decide +kernel
theorem dX6_isStep_74 : decode cX6_isStep 74 = .ok (.invokevirtual 82, 3) := by decide +kernel
theorem dX6_isStep_77 : decode cX6_isStep 77 = .ok (.ireturn, 1) := by decide +kernel
theorem dX6_isStep_78 : decode cX6_isStep 78 = .ok (.iload_n 3, 1) := by decide +kernel
theorem dX6_isStep_79 : decode cX6_isStep 79 = .ok (.iconst 1, 1) := by decide +kernel
theorem dX6_isStep_80 : decode cX6_isStep 80 = .ok (.bipush 20, 2) := by decide +kernel
theorem dX6_isStep_82 : decode cX6_isStep 82 = .ok (.invokestatic 35, 3) := by decide +kernel
theorem dX6_isStep_85 : decode cX6_isStep 85 = .ok (.ireturn, 1) := by decide +kernel
theorem dX6_isStep_86 : decode cX6_isStep 86 = .ok (.aload_n 0, 1) := by decide +kernel
theorem dX6_isStep_87 : decode cX6_isStep 87 = .ok (.iload_n 3, 1) := by decide +kernel
theorem dX6_isStep_88 : decode cX6_isStep 88 = .ok (.invokevirtual 85, 3) := by decide +kernel
theorem dX6_isStep_91 : decode cX6_isStep 91 = .ok (.ifCond .eq 12, 3) := by decide +kernel
theorem dX6_isStep_94 : decode cX6_isStep 94 = .ok (.iload_n 3, 1) := by decide +kernel
theorem dX6_isStep_95 : decode cX6_isStep 95 = .ok (.iload_n 1, 1) := by decide +kernel
theorem dX6_isStep_96 : decode cX6_isStep 96 = .ok (.if_icmp .eq 7, 3) := by decide +kernel
theorem dX6_isStep_99 : decode cX6_isStep 99 = .ok (.iconst 1, 1) := by decide +kernel
theorem dX6_isStep_100 : decode cX6_isStep 100 = .ok (.goto 4, 3) := by decide +kernel
theorem dX6_isStep_103 : decode cX6_isStep 103 = .ok (.iconst 0, 1) := by decide +kernel
theorem dX6_isStep_104 : decode cX6_isStep 104 = .ok (.ireturn, 1) := by decide +kernel
theorem dX6_isStep_105 : decode cX6_isStep 105 = .ok (.iload_n 3, 1) := by decide +kernel
theorem dX6_isStep_106 : decode cX6_isStep 106 = .ok (.iconst 0, 1) := by decide +kernel
theorem dX6_isStep_107 : decode cX6_isStep 107 = .ok (.aload_n 0, 1) := by decide +kernel
theorem dX6_isStep_108 : decode cX6_isStep 108 = .ok (.getfield 9, 3) := by decide +kernel
theorem dX6_isStep_111 : decode cX6_isStep 111 = .ok (.iload_n 1, 1) := by decide +kernel
theorem dX6_isStep_112 : decode cX6_isStep 112 = .ok (.iaload, 1) := by decide +kernel
theorem dX6_isStep_113 : decode cX6_isStep 113 = .ok (.invokestatic 35, 3) := by decide +kernel
theorem dX6_isStep_116 : decode cX6_isStep 116 = .ok (.ifCond .eq 18, 3) := by decide +kernel
theorem dX6_isStep_119 : decode cX6_isStep 119 = .ok (.iload 4, 2) := by decide +kernel
theorem dX6_isStep_121 : decode cX6_isStep 121 = .ok (.iconst 1, 1) := by decide +kernel
theorem dX6_isStep_122 : decode cX6_isStep 122 = .ok (.bipush 9, 2) := by decide +kernel
theorem dX6_isStep_124 : decode cX6_isStep 124 = .ok (.invokestatic 35, 3) := by decide +kernel
theorem dX6_isStep_127 : decode cX6_isStep 127 = .ok (.ifCond .eq 7, 3) := by decide +kernel
theorem dX6_isStep_130 : decode cX6_isStep 130 = .ok (.iconst 1, 1) := by decide +kernel
theorem dX6_isStep_131 : decode cX6_isStep 131 = .ok (.goto 4, 3) := by decide +kernel
theorem dX6_isStep_134 : decode cX6_isStep 134 = .ok (.iconst 0, 1) := by decide +kernel
theorem dX6_isStep_135 : decode cX6_isStep 135 = .ok (.ireturn, 1) := by decide +kernel
theorem dX6_isStep_136 : decode cX6_isStep 136 = .ok (.iload_n 2, 1) := by decide +kernel
theorem dX6_isStep_137 : decode cX6_isStep 137 = .ok (.iconst 3, 1) := by decide +kernel
theorem dX6_isStep_138 : decode cX6_isStep 138 = .ok (.if_icmp .ne 7, 3) := by decide +kernel
theorem dX6_isStep_141 : decode cX6_isStep 141 = .ok (.iconst 1, 1) := by decide +kernel
theorem dX6_isStep_142 : decode cX6_isStep 142 = .ok (.goto 4, 3) := by decide +kernel
theorem dX6_isStep_145 : decode cX6_isStep 145 = .ok (.iconst 0, 1) := by decide +kernel
theorem dX6_isStep_146 : decode cX6_isStep 146 = .ok (.ireturn, 1) := by decide +kernel
theorem dX6_addStep_0 : decode cX6_addStep 0 = .ok (.aload_n 0, 1) := by decide +kernel
theorem dX6_addStep_1 : decode cX6_addStep 1 = .ok (.iconst 0, 1) := by decide +kernel
theorem dX6_addStep_2 : decode cX6_addStep 2 = .ok (.putfield 28, 3) := by decide +kernel
theorem dX6_addStep_5 : decode cX6_addStep 5 = .ok (.aload_n 0, 1) := by decide +kernel
theorem dX6_addStep_6 : decode cX6_addStep 6 = .ok (.iload_n 1, 1) := by decide +kernel
theorem dX6_addStep_7 : decode cX6_addStep 7 = .ok (.invokevirtual 85, 3) := by decide +kernel
theorem dX6_addStep_10 : decode cX6_addStep 10 = .ok (.ifCond .ne 9, 3) := by decide +kernel
theorem dX6_addStep_13 : decode cX6_addStep 13 = .ok (.aload_n 0, 1) := by decide +kernel
theorem dX6_addStep_14 : decode cX6_addStep 14 = .ok (.iconst 1, 1) := by decide +kernel
theorem dX6_addStep_15 : decode cX6_addStep 15 = .ok (.invokevirtual 79, 3) := by decide +kernel
theorem dX6_addStep_18 : decode cX6_addStep 18 = .ok (.ireturn, 1) := by decide +kernel
theorem dX6_addStep_19 : decode cX6_addStep 19 = .ok (.aload_n 0, 1) := by decide +kernel
theorem dX6_addStep_20 : decode cX6_addStep 20 = .ok (.iload_n 1, 1) := by decide +kernel
theorem dX6_addStep_21 : decode cX6_addStep 21 = .ok (.iload_n 2, 1) := by decide +kernel
theorem dX6_addStep_22 : decode cX6_addStep 22 = .ok (.iload_n 3, 1) := by decide +kernel
theorem dX6_addStep_23 : decode cX6_addStep 23 = .ok (.iload 4, 2) := by decide +kernel
theorem dX6_addStep_25 : decode cX6_addStep 25 = .ok (.invokevirtual 88, 3) := by decide +kernel
theorem dX6_addStep_28 : decode cX6_addStep 28 = .ok (.ifCond .ne 9, 3) := by decide +kernel
theorem dX6_addStep_31 : decode cX6_addStep 31 = .ok (.aload_n 0, 1) := by decide +kernel
theorem dX6_addStep_32 : decode cX6_addStep 32 = .ok (.iconst 2, 1) := by decide +kernel
theorem dX6_addStep_33 : decode cX6_addStep 33 = .ok (.invokevirtual 79, 3) := by decide +kernel
theorem dX6_addStep_36 : decode cX6_addStep 36 = .ok (.ireturn, 1) := by decide +kernel
theorem dX6_addStep_37 : decode cX6_addStep 37 = .ok (.aload_n 0, 1) := by decide +kernel
theorem dX6_addStep_38 : decode cX6_addStep 38 = .ok (.getfield 9, 3) := by decide +kernel
theorem dX6_addStep_41 : decode cX6_addStep 41 = .ok (.iload_n 1, 1) := by decide +kernel
theorem dX6_addStep_42 : decode cX6_addStep 42 = .ok (.iaload, 1) := by decide +kernel
theorem dX6_addStep_43 : decode cX6_addStep 43 = .ok (.bipush 12, 2) := by decide +kernel
theorem dX6_addStep_45 : decode cX6_addStep 45 = .ok (.if_icmp .ne 9, 3) := by decide +kernel
theorem dX6_addStep_48 : decode cX6_addStep 48 = .ok (.aload_n 0, 1) := by decide +kernel
theorem dX6_addStep_49 : decode cX6_addStep 49 = .ok (.iconst 3, 1) := by decide +kernel
theorem dX6_addStep_50 : decode cX6_addStep 50 = .ok (.invokevirtual 79, 3) := by decide +kernel
theorem dX6_addStep_53 : decode cX6_addStep 53 = .ok (.ireturn, 1) := by decide +kernel
theorem dX6_addStep_54 : decode cX6_addStep 54 = .ok (.bipush 12, 2) := by decide +kernel
theorem dX6_addStep_56 : decode cX6_addStep 56 = .ok (.iload_n 1, 1) := by decide +kernel
theorem dX6_addStep_57 : decode cX6_addStep 57 = .ok (.imul, 1) := by decide +kernel
theorem dX6_addStep_58 : decode cX6_addStep 58 = .ok (.aload_n 0, 1) := by decide +kernel
theorem dX6_addStep_59 : decode cX6_addStep 59 = .ok (.getfield 9, 3) := by decide +kernel
theorem dX6_addStep_62 : decode cX6_addStep 62 = .ok (.iload_n 1, 1) := by decide +kernel
theorem dX6_addStep_63 : decode cX6_addStep 63 = .ok (.iaload, 1) := by decide +kernel
theorem dX6_addStep_64 : decode cX6_addStep 64 = .ok (.iadd, 1) := by decide +kernel
theorem dX6_addStep_65 : decode cX6_addStep 65 = .ok (.istore 5, 2) := by decide +kernel
theorem dX6_addStep_67 : decode cX6_addStep 67 = .ok (.aload_n 0, 1) := by decide +kernel
theorem dX6_addStep_68 : decode cX6_addStep 68 = .ok (.getfield 13, 3) := by decide +kernel
theorem dX6_addStep_71 : decode cX6_addStep 71 = .ok (.iload 5, 2) := by decide +kernel
theorem dX6_addStep_73 : decode cX6_addStep 73 = .ok (.iload_n 2, 1) := by decide +kernel
theorem dX6_addStep_74 : decode cX6_addStep 74 = .ok (.iastore, 1) := by decide +kernel
theorem dX6_addStep_75 : decode cX6_addStep 75 = .ok (.aload_n 0, 1) := by decide +kernel
theorem dX6_addStep_76 : decode cX6_addStep 76 = .ok (.getfield 16, 3) := by decide +kernel
theorem dX6_addStep_79 : decode cX6_addStep 79 = .ok (.iload 5, 2) := by decide +kernel
theorem dX6_addStep_81 : decode cX6_addStep 81 = .ok (.iload_n 3, 1) := by decide +kernel
theorem dX6_addStep_82 : decode cX6_addStep 82 = .ok (.iastore, 1) := by decide +kernel
theorem dX6_addStep_83 : decode cX6_addStep 83 = .ok (.aload_n 0, 1) := by decide +kernel
theorem dX6_addStep_84 : decode cX6_addStep 84 = .ok (.getfield 19, 3) := by decide +kernel
theorem dX6_addStep_87 : decode cX6_addStep 87 = .ok (.iload 5, 2) := by decide +kernel
theorem dX6_addStep_89 : decode cX6_addStep 89 = .ok (.iload 4, 2) := by decide +kernel
theorem dX6_addStep_91 : decode cX6_addStep 91 = .ok (.iastore, 1) := by decide +kernel
theorem dX6_addStep_92 : decode cX6_addStep 92 = .ok (.aload_n 0, 1) := by decide +kernel
theorem dX6_addStep_93 : decode cX6_addStep 93 = .ok (.getfield 9, 3) := by decide +kernel
theorem dX6_addStep_96 : decode cX6_addStep 96 = .ok (.iload_n 1, 1) := by decide +kernel
theorem dX6_addStep_97 : decode cX6_addStep 97 = .ok (.dup2, 1) := by decide +kernel
theorem dX6_addStep_98 : decode cX6_addStep 98 = .ok (.iaload, 1) := by decide +kernel
theorem dX6_addStep_99 : decode cX6_addStep 99 = .ok (.iconst 1, 1) := by decide +kernel
theorem dX6_addStep_100 : decode cX6_addStep 100 = .ok (.iadd, 1) := by decide +kernel
theorem dX6_addStep_101 : decode cX6_addStep 101 = .ok (.iastore, 1) := by decide +kernel
theorem dX6_addStep_102 : decode cX6_addStep 102 = .ok (.aload_n 0, 1) := by decide +kernel
theorem dX6_addStep_103 : decode cX6_addStep 103 = .ok (.getfield 22, 3) := by decide +kernel
theorem dX6_addStep_106 : decode cX6_addStep 106 = .ok (.bipush 12, 2) := by decide +kernel
theorem dX6_addStep_108 : decode cX6_addStep 108 = .ok (.iload_n 1, 1) := by decide +kernel
theorem dX6_addStep_109 : decode cX6_addStep 109 = .ok (.iadd, 1) := by decide +kernel
theorem dX6_addStep_110 : decode cX6_addStep 110 = .ok (.iaload, 1) := by decide +kernel
theorem dX6_addStep_111 : decode cX6_addStep 111 = .ok (.iconst 5, 1) := by decide +kernel
theorem dX6_addStep_112 : decode cX6_addStep 112 = .ok (.if_icmp .ne 8, 3) := by decide +kernel
theorem dX6_addStep_115 : decode cX6_addStep 115 = .ok (.aload_n 0, 1) := by decide +kernel
theorem dX6_addStep_116 : decode cX6_addStep 116 = .ok (.iload_n 1, 1) := by decide +kernel
theorem dX6_addStep_117 : decode cX6_addStep 117 = .ok (.invokevirtual 51, 3) := by decide +kernel
theorem dX6_addStep_120 : decode cX6_addStep 120 = .ok (.aload_n 0, 1) := by decide +kernel
theorem dX6_addStep_121 : decode cX6_addStep 121 = .ok (.getfield 9, 3) := by decide +kernel
theorem dX6_addStep_124 : decode cX6_addStep 124 = .ok (.iload_n 1, 1) := by decide +kernel
theorem dX6_addStep_125 : decode cX6_addStep 125 = .ok (.iaload, 1) := by decide +kernel
theorem dX6_addStep_126 : decode cX6_addStep 126 = .ok (.iconst 1, 1) := by decide +kernel
theorem dX6_addStep_127 : decode cX6_addStep 127 = .ok (.isub, 1) := by decide +kernel
theorem dX6_addStep_128 : decode cX6_addStep 128 = .ok (.ireturn, 1) := by decide +kernel
theorem dX6_pour_0 : decode cX6_pour 0 = .ok (.aload_n 0, 1) := by decide +kernel
theorem dX6_pour_1 : decode cX6_pour 1 = .ok (.iconst 0, 1) := by decide +kernel
theorem dX6_pour_2 : decode cX6_pour 2 = .ok (.putfield 28, 3) := by decide +kernel
theorem dX6_pour_5 : decode cX6_pour 5 = .ok (.aload_n 0, 1) := by decide +kernel
theorem dX6_pour_6 : decode cX6_pour 6 = .ok (.iload_n 1, 1) := by decide +kernel
theorem dX6_pour_7 : decode cX6_pour 7 = .ok (.invokevirtual 82, 3) := by decide +kernel
theorem dX6_pour_10 : decode cX6_pour 10 = .ok (.ifCond .ne 9, 3) := by decide +kernel
theorem dX6_pour_13 : decode cX6_pour 13 = .ok (.aload_n 0, 1) := by decide +kernel
theorem dX6_pour_14 : decode cX6_pour 14 = .ok (.iconst 1, 1) := by decide +kernel
theorem dX6_pour_15 : decode cX6_pour 15 = .ok (.invokevirtual 79, 3) := by decide +kernel
theorem dX6_pour_18 : decode cX6_pour 18 = .ok (.ireturn, 1) := by decide +kernel
theorem dX6_pour_19 : decode cX6_pour 19 = .ok (.iload_n 2, 1) := by decide +kernel
theorem dX6_pour_20 : decode cX6_pour 20 = .ok (.sipush (-999), 3) := by decide +kernel
theorem dX6_pour_23 : decode cX6_pour 23 = .ok (.sipush 999, 3) := by decide +kernel
theorem dX6_pour_26 : decode cX6_pour 26 = .ok (.invokestatic 35, 3) := by decide +kernel
theorem dX6_pour_29 : decode cX6_pour 29 = .ok (.ifCond .ne 9, 3) := by decide +kernel
theorem dX6_pour_32 : decode cX6_pour 32 = .ok (.aload_n 0, 1) := by decide +kernel
theorem dX6_pour_33 : decode cX6_pour 33 = .ok (.iconst 2, 1) := by decide +kernel
theorem dX6_pour_34 : decode cX6_pour 34 = .ok (.invokevirtual 79, 3) := by decide +kernel
theorem dX6_pour_37 : decode cX6_pour 37 = .ok (.ireturn, 1) := by decide +kernel
theorem dX6_pour_38 : decode cX6_pour 38 = .ok (.aload_n 0, 1) := by decide +kernel
theorem dX6_pour_39 : decode cX6_pour 39 = .ok (.getfield 22, 3) := by decide +kernel
theorem dX6_pour_42 : decode cX6_pour 42 = .ok (.sipush 168, 3) := by decide +kernel
theorem dX6_pour_45 : decode cX6_pour 45 = .ok (.iload_n 1, 1) := by decide +kernel
theorem dX6_pour_46 : decode cX6_pour 46 = .ok (.iadd, 1) := by decide +kernel
theorem dX6_pour_47 : decode cX6_pour 47 = .ok (.iaload, 1) := by decide +kernel
theorem dX6_pour_48 : decode cX6_pour 48 = .ok (.aload_n 0, 1) := by decide +kernel
theorem dX6_pour_49 : decode cX6_pour 49 = .ok (.getfield 22, 3) := by decide +kernel
theorem dX6_pour_52 : decode cX6_pour 52 = .ok (.sipush 164, 3) := by decide +kernel
theorem dX6_pour_55 : decode cX6_pour 55 = .ok (.iload_n 1, 1) := by decide +kernel
theorem dX6_pour_56 : decode cX6_pour 56 = .ok (.iadd, 1) := by decide +kernel
theorem dX6_pour_57 : decode cX6_pour 57 = .ok (.iaload, 1) := by decide +kernel
theorem dX6_pour_58 : decode cX6_pour 58 = .ok (.if_icmp .ne 9, 3) := by decide +kernel
theorem dX6_pour_61 : decode cX6_pour 61 = .ok (.aload_n 0, 1) := by decide +kernel
theorem dX6_pour_62 : decode cX6_pour 62 = .ok (.iconst 3, 1) := by decide +kernel
theorem dX6_pour_63 : decode cX6_pour 63 = .ok (.invokevirtual 79, 3) := by decide +kernel
theorem dX6_pour_66 : decode cX6_pour 66 = .ok (.ireturn, 1) := by decide +kernel
theorem dX6_pour_67 : decode cX6_pour 67 = .ok (.aload_n 0, 1) := by decide +kernel
theorem dX6_pour_68 : decode cX6_pour 68 = .ok (.iload_n 1, 1) := by decide +kernel
theorem dX6_pour_69 : decode cX6_pour 69 = .ok (.iload_n 2, 1) := by decide +kernel
theorem dX6_pour_70 : decode cX6_pour 70 = .ok (.invokevirtual 62, 3) := by decide +kernel
theorem dX6_pour_73 : decode cX6_pour 73 = .ok (.aload_n 0, 1) := by decide +kernel
theorem dX6_pour_74 : decode cX6_pour 74 = .ok (.getfield 22, 3) := by decide +kernel
theorem dX6_pour_77 : decode cX6_pour 77 = .ok (.sipush 168, 3) := by decide +kernel
theorem dX6_pour_80 : decode cX6_pour 80 = .ok (.iload_n 1, 1) := by decide +kernel
theorem dX6_pour_81 : decode cX6_pour 81 = .ok (.iadd, 1) := by decide +kernel
theorem dX6_pour_82 : decode cX6_pour 82 = .ok (.iaload, 1) := by decide +kernel
theorem dX6_pour_83 : decode cX6_pour 83 = .ok (.ireturn, 1) := by decide +kernel
theorem dX6_run_0 : decode cX6_run 0 = .ok (.aload_n 0, 1) := by decide +kernel
theorem dX6_run_1 : decode cX6_run 1 = .ok (.iconst 0, 1) := by decide +kernel
theorem dX6_run_2 : decode cX6_run 2 = .ok (.putfield 28, 3) := by decide +kernel
theorem dX6_run_5 : decode cX6_run 5 = .ok (.iload_n 1, 1) := by decide +kernel
theorem dX6_run_6 : decode cX6_run 6 = .ok (.iconst 1, 1) := by decide +kernel
theorem dX6_run_7 : decode cX6_run 7 = .ok (.bipush 60, 2) := by decide +kernel
theorem dX6_run_9 : decode cX6_run 9 = .ok (.invokestatic 35, 3) := by decide +kernel
theorem dX6_run_12 : decode cX6_run 12 = .ok (.ifCond .ne 9, 3) := by decide +kernel
theorem dX6_run_15 : decode cX6_run 15 = .ok (.aload_n 0, 1) := by decide +kernel
theorem dX6_run_16 : decode cX6_run 16 = .ok (.iconst 1, 1) := by decide +kernel
theorem dX6_run_17 : decode cX6_run 17 = .ok (.invokevirtual 79, 3) := by decide +kernel
theorem dX6_run_20 : decode cX6_run 20 = .ok (.ireturn, 1) := by decide +kernel
theorem dX6_run_21 : decode cX6_run 21 = .ok (.aload_n 0, 1) := by decide +kernel
theorem dX6_run_22 : decode cX6_run 22 = .ok (.getfield 22, 3) := by decide +kernel
theorem dX6_run_25 : decode cX6_run 25 = .ok (.iconst 1, 1) := by decide +kernel
theorem dX6_run_26 : decode cX6_run 26 = .ok (.iaload, 1) := by decide +kernel
theorem dX6_run_27 : decode cX6_run 27 = .ok (.istore_n 2, 1) := by decide +kernel
theorem dX6_run_28 : decode cX6_run 28 = .ok (.iconst 0, 1) := by decide +kernel
theorem dX6_run_29 : decode cX6_run 29 = .ok (.istore_n 3, 1) := by decide +kernel
theorem dX6_run_30 : decode cX6_run 30 = .ok (.iload_n 3, 1) := by decide +kernel
theorem dX6_run_31 : decode cX6_run 31 = .ok (.iload_n 1, 1) := by decide +kernel
theorem dX6_run_32 : decode cX6_run 32 = .ok (.if_icmp .ge 13, 3) := by decide +kernel
theorem dX6_run_35 : decode cX6_run 35 = .ok (.aload_n 0, 1) := by decide +kernel
theorem dX6_run_36 : decode cX6_run 36 = .ok (.invokevirtual 92, 3) := by decide +kernel
theorem dX6_run_39 : decode cX6_run 39 = .ok (.iinc 3 1, 3) := by decide +kernel
theorem dX6_run_42 : decode cX6_run 42 = .ok (.goto (-12), 3) := by decide +kernel
theorem dX6_run_45 : decode cX6_run 45 = .ok (.aload_n 0, 1) := by decide +kernel
theorem dX6_run_46 : decode cX6_run 46 = .ok (.getfield 22, 3) := by decide +kernel
theorem dX6_run_49 : decode cX6_run 49 = .ok (.iconst 1, 1) := by decide +kernel
theorem dX6_run_50 : decode cX6_run 50 = .ok (.iaload, 1) := by decide +kernel
theorem dX6_run_51 : decode cX6_run 51 = .ok (.iload_n 2, 1) := by decide +kernel
theorem dX6_run_52 : decode cX6_run 52 = .ok (.isub, 1) := by decide +kernel
theorem dX6_run_53 : decode cX6_run 53 = .ok (.ireturn, 1) := by decide +kernel
theorem dX6_time_0 : decode cX6_time 0 = .ok (.aload_n 0, 1) := by decide +kernel
theorem dX6_time_1 : decode cX6_time 1 = .ok (.aload_n 0, 1) := by decide +kernel
theorem dX6_time_2 : decode cX6_time 2 = .ok (.getfield 22, 3) := by decide +kernel
theorem dX6_time_5 : decode cX6_time 5 = .ok (.iconst 0, 1) := by decide +kernel
theorem dX6_time_6 : decode cX6_time 6 = .ok (.iaload, 1) := by decide +kernel
theorem dX6_time_7 : decode cX6_time 7 = .ok (.invokevirtual 95, 3) := by decide +kernel
theorem dX6_time_10 : decode cX6_time 10 = .ok (.ireturn, 1) := by decide +kernel
theorem dX6_channels_0 : decode cX6_channels 0 = .ok (.aload_n 0, 1) := by decide +kernel
theorem dX6_channels_1 : decode cX6_channels 1 = .ok (.aload_n 0, 1) := by decide +kernel
theorem dX6_channels_2 : decode cX6_channels 2 = .ok (.getfield 32, 3) := by decide +kernel
theorem dX6_channels_5 : decode cX6_channels 5 = .ok (.invokevirtual 95, 3) := by decide +kernel
theorem dX6_channels_8 : decode cX6_channels 8 = .ok (.ireturn, 1) := by decide +kernel
theorem dX6_fibers_0 : decode cX6_fibers 0 = .ok (.aload_n 0, 1) := by decide +kernel
theorem dX6_fibers_1 : decode cX6_fibers 1 = .ok (.aload_n 0, 1) := by decide +kernel
theorem dX6_fibers_2 : decode cX6_fibers 2 = .ok (.getfield 39, 3) := by decide +kernel
theorem dX6_fibers_5 : decode cX6_fibers 5 = .ok (.invokevirtual 95, 3) := by decide +kernel
theorem dX6_fibers_8 : decode cX6_fibers 8 = .ok (.ireturn, 1) := by decide +kernel
theorem dX6_inState_0 : decode cX6_inState 0 = .ok (.iconst 0, 1) := by decide +kernel
theorem dX6_inState_1 : decode cX6_inState 1 = .ok (.istore_n 2, 1) := by decide +kernel
theorem dX6_inState_2 : decode cX6_inState 2 = .ok (.iconst 0, 1) := by decide +kernel
theorem dX6_inState_3 : decode cX6_inState 3 = .ok (.istore_n 3, 1) := by decide +kernel
theorem dX6_inState_4 : decode cX6_inState 4 = .ok (.iload_n 3, 1) := by decide +kernel
theorem dX6_inState_5 : decode cX6_inState 5 = .ok (.aload_n 0, 1) := by decide +kernel
theorem dX6_inState_6 : decode cX6_inState 6 = .ok (.getfield 39, 3) := by decide +kernel
theorem dX6_inState_9 : decode cX6_inState 9 = .ok (.if_icmp .ge 30, 3) := by decide +kernel
theorem dX6_inState_12 : decode cX6_inState 12 = .ok (.iload_n 2, 1) := by decide +kernel
theorem dX6_inState_13 : decode cX6_inState 13 = .ok (.aload_n 0, 1) := by decide +kernel
theorem dX6_inState_14 : decode cX6_inState 14 = .ok (.getfield 22, 3) := by decide +kernel
theorem dX6_inState_17 : decode cX6_inState 17 = .ok (.bipush 12, 2) := by decide +kernel
theorem dX6_inState_19 : decode cX6_inState 19 = .ok (.iload_n 3, 1) := by decide +kernel
theorem dX6_inState_20 : decode cX6_inState 20 = .ok (.iadd, 1) := by decide +kernel
theorem dX6_inState_21 : decode cX6_inState 21 = .ok (.iaload, 1) := by decide +kernel
theorem dX6_inState_22 : decode cX6_inState 22 = .ok (.iload_n 1, 1) := by decide +kernel
theorem dX6_inState_23 : decode cX6_inState 23 = .ok (.if_icmp .ne 7, 3) := by decide +kernel
theorem dX6_inState_26 : decode cX6_inState 26 = .ok (.iconst 1, 1) := by decide +kernel
theorem dX6_inState_27 : decode cX6_inState 27 = .ok (.goto 4, 3) := by decide +kernel
theorem dX6_inState_30 : decode cX6_inState 30 = .ok (.iconst 0, 1) := by decide +kernel
theorem dX6_inState_31 : decode cX6_inState 31 = .ok (.iadd, 1) := by decide +kernel
theorem dX6_inState_32 : decode cX6_inState 32 = .ok (.istore_n 2, 1) := by decide +kernel
theorem dX6_inState_33 : decode cX6_inState 33 = .ok (.iinc 3 1, 3) := by decide +kernel
theorem dX6_inState_36 : decode cX6_inState 36 = .ok (.goto (-32), 3) := by decide +kernel
theorem dX6_inState_39 : decode cX6_inState 39 = .ok (.iload_n 2, 1) := by decide +kernel
theorem dX6_inState_40 : decode cX6_inState 40 = .ok (.ireturn, 1) := by decide +kernel
theorem dX6_done__0 : decode cX6_done_ 0 = .ok (.aload_n 0, 1) := by decide +kernel
theorem dX6_done__1 : decode cX6_done_ 1 = .ok (.aload_n 0, 1) := by decide +kernel
theorem dX6_done__2 : decode cX6_done_ 2 = .ok (.iconst 5, 1) := by decide +kernel
theorem dX6_done__3 : decode cX6_done_ 3 = .ok (.invokevirtual 98, 3) := by decide +kernel
theorem dX6_done__6 : decode cX6_done_ 6 = .ok (.invokevirtual 95, 3) := by decide +kernel
theorem dX6_done__9 : decode cX6_done_ 9 = .ok (.ireturn, 1) := by decide +kernel
theorem dX6_idleTurns_0 : decode cX6_idleTurns 0 = .ok (.aload_n 0, 1) := by decide +kernel
theorem dX6_idleTurns_1 : decode cX6_idleTurns 1 = .ok (.aload_n 0, 1) := by decide +kernel
theorem dX6_idleTurns_2 : decode cX6_idleTurns 2 = .ok (.getfield 22, 3) := by decide +kernel
theorem dX6_idleTurns_5 : decode cX6_idleTurns 5 = .ok (.iconst 1, 1) := by decide +kernel
theorem dX6_idleTurns_6 : decode cX6_idleTurns 6 = .ok (.iaload, 1) := by decide +kernel
theorem dX6_idleTurns_7 : decode cX6_idleTurns 7 = .ok (.invokevirtual 95, 3) := by decide +kernel
theorem dX6_idleTurns_10 : decode cX6_idleTurns 10 = .ok (.ireturn, 1) := by decide +kernel
theorem dX6_first_0 : decode cX6_first 0 = .ok (.aload_n 0, 1) := by decide +kernel
theorem dX6_first_1 : decode cX6_first 1 = .ok (.getfield 22, 3) := by decide +kernel
theorem dX6_first_4 : decode cX6_first 4 = .ok (.iconst 3, 1) := by decide +kernel
theorem dX6_first_5 : decode cX6_first 5 = .ok (.iaload, 1) := by decide +kernel
theorem dX6_first_6 : decode cX6_first 6 = .ok (.ifCond .ne 7, 3) := by decide +kernel
theorem dX6_first_9 : decode cX6_first 9 = .ok (.iconst (-1), 1) := by decide +kernel
theorem dX6_first_10 : decode cX6_first 10 = .ok (.goto 9, 3) := by decide +kernel
theorem dX6_first_13 : decode cX6_first 13 = .ok (.aload_n 0, 1) := by decide +kernel
theorem dX6_first_14 : decode cX6_first 14 = .ok (.getfield 22, 3) := by decide +kernel
theorem dX6_first_17 : decode cX6_first 17 = .ok (.iconst 4, 1) := by decide +kernel
theorem dX6_first_18 : decode cX6_first 18 = .ok (.iaload, 1) := by decide +kernel
theorem dX6_first_19 : decode cX6_first 19 = .ok (.ireturn, 1) := by decide +kernel
theorem dX6_next_0 : decode cX6_next 0 = .ok (.aload_n 0, 1) := by decide +kernel
theorem dX6_next_1 : decode cX6_next 1 = .ok (.aload_n 0, 1) := by decide +kernel
theorem dX6_next_2 : decode cX6_next 2 = .ok (.invokevirtual 101, 3) := by decide +kernel
theorem dX6_next_5 : decode cX6_next 5 = .ok (.invokevirtual 95, 3) := by decide +kernel
theorem dX6_next_8 : decode cX6_next 8 = .ok (.ireturn, 1) := by decide +kernel
theorem dX6_stuck_0 : decode cX6_stuck 0 = .ok (.aload_n 0, 1) := by decide +kernel
theorem dX6_stuck_1 : decode cX6_stuck 1 = .ok (.getfield 22, 3) := by decide +kernel
theorem dX6_stuck_4 : decode cX6_stuck 4 = .ok (.iconst 3, 1) := by decide +kernel
theorem dX6_stuck_5 : decode cX6_stuck 5 = .ok (.iaload, 1) := by decide +kernel
theorem dX6_stuck_6 : decode cX6_stuck 6 = .ok (.ifCond .ne 27, 3) := by decide +kernel
theorem dX6_stuck_9 : decode cX6_stuck 9 = .ok (.aload_n 0, 1) := by decide +kernel
theorem dX6_stuck_10 : decode cX6_stuck 10 = .ok (.iconst 3, 1) := by decide +kernel
theorem dX6_stuck_11 : decode cX6_stuck 11 = .ok (.invokevirtual 98, 3) := by decide +kernel
theorem dX6_stuck_14 : decode cX6_stuck 14 = .ok (.ifCond .ne 19, 3) := by decide +kernel
theorem dX6_stuck_17 : decode cX6_stuck 17 = .ok (.aload_n 0, 1) := by decide +kernel
theorem dX6_stuck_18 : decode cX6_stuck 18 = .ok (.iconst 5, 1) := by decide +kernel
theorem dX6_stuck_19 : decode cX6_stuck 19 = .ok (.invokevirtual 98, 3) := by decide +kernel
theorem dX6_stuck_22 : decode cX6_stuck 22 = .ok (.aload_n 0, 1) := by decide +kernel
theorem dX6_stuck_23 : decode cX6_stuck 23 = .ok (.getfield 39, 3) := by decide +kernel
theorem dX6_stuck_26 : decode cX6_stuck 26 = .ok (.if_icmp .ge 7, 3) := by decide +kernel
theorem dX6_stuck_29 : decode cX6_stuck 29 = .ok (.iconst 1, 1) := by decide +kernel
theorem dX6_stuck_30 : decode cX6_stuck 30 = .ok (.goto 4, 3) := by decide +kernel
theorem dX6_stuck_33 : decode cX6_stuck 33 = .ok (.iconst 0, 1) := by decide +kernel
theorem dX6_stuck_34 : decode cX6_stuck 34 = .ok (.ireturn, 1) := by decide +kernel
theorem dX6_isStuck_0 : decode cX6_isStuck 0 = .ok (.aload_n 0, 1) := by decide +kernel
theorem dX6_isStuck_1 : decode cX6_isStuck 1 = .ok (.iconst 0, 1) := by decide +kernel
theorem dX6_isStuck_2 : decode cX6_isStuck 2 = .ok (.putfield 28, 3) := by decide +kernel
theorem dX6_isStuck_5 : decode cX6_isStuck 5 = .ok (.aload_n 0, 1) := by decide +kernel
theorem dX6_isStuck_6 : decode cX6_isStuck 6 = .ok (.invokevirtual 105, 3) := by decide +kernel
theorem dX6_isStuck_9 : decode cX6_isStuck 9 = .ok (.ireturn, 1) := by decide +kernel
theorem dX6_heldIn_0 : decode cX6_heldIn 0 = .ok (.aload_n 0, 1) := by decide +kernel
theorem dX6_heldIn_1 : decode cX6_heldIn 1 = .ok (.getfield 22, 3) := by decide +kernel
theorem dX6_heldIn_4 : decode cX6_heldIn 4 = .ok (.sipush 168, 3) := by decide +kernel
theorem dX6_heldIn_7 : decode cX6_heldIn 7 = .ok (.iload_n 1, 1) := by decide +kernel
theorem dX6_heldIn_8 : decode cX6_heldIn 8 = .ok (.iadd, 1) := by decide +kernel
theorem dX6_heldIn_9 : decode cX6_heldIn 9 = .ok (.iaload, 1) := by decide +kernel
theorem dX6_heldIn_10 : decode cX6_heldIn 10 = .ok (.ireturn, 1) := by decide +kernel
theorem dX6_held_0 : decode cX6_held 0 = .ok (.aload_n 0, 1) := by decide +kernel
theorem dX6_held_1 : decode cX6_held 1 = .ok (.iconst 0, 1) := by decide +kernel
theorem dX6_held_2 : decode cX6_held 2 = .ok (.putfield 28, 3) := by decide +kernel
theorem dX6_held_5 : decode cX6_held 5 = .ok (.aload_n 0, 1) := by decide +kernel
theorem dX6_held_6 : decode cX6_held 6 = .ok (.iload_n 1, 1) := by decide +kernel
theorem dX6_held_7 : decode cX6_held 7 = .ok (.invokevirtual 82, 3) := by decide +kernel
theorem dX6_held_10 : decode cX6_held 10 = .ok (.ifCond .eq 11, 3) := by decide +kernel
theorem dX6_held_13 : decode cX6_held 13 = .ok (.aload_n 0, 1) := by decide +kernel
theorem dX6_held_14 : decode cX6_held 14 = .ok (.iload_n 1, 1) := by decide +kernel
theorem dX6_held_15 : decode cX6_held 15 = .ok (.invokevirtual 109, 3) := by decide +kernel
theorem dX6_held_18 : decode cX6_held 18 = .ok (.goto 8, 3) := by decide +kernel
theorem dX6_held_21 : decode cX6_held 21 = .ok (.aload_n 0, 1) := by decide +kernel
theorem dX6_held_22 : decode cX6_held 22 = .ok (.iconst 1, 1) := by decide +kernel
theorem dX6_held_23 : decode cX6_held 23 = .ok (.invokevirtual 79, 3) := by decide +kernel
theorem dX6_held_26 : decode cX6_held 26 = .ok (.ireturn, 1) := by decide +kernel
theorem dX6_valueAt_0 : decode cX6_valueAt 0 = .ok (.aload_n 0, 1) := by decide +kernel
theorem dX6_valueAt_1 : decode cX6_valueAt 1 = .ok (.iconst 0, 1) := by decide +kernel
theorem dX6_valueAt_2 : decode cX6_valueAt 2 = .ok (.putfield 28, 3) := by decide +kernel
theorem dX6_valueAt_5 : decode cX6_valueAt 5 = .ok (.aload_n 0, 1) := by decide +kernel
theorem dX6_valueAt_6 : decode cX6_valueAt 6 = .ok (.iload_n 1, 1) := by decide +kernel
theorem dX6_valueAt_7 : decode cX6_valueAt 7 = .ok (.invokevirtual 82, 3) := by decide +kernel
theorem dX6_valueAt_10 : decode cX6_valueAt 10 = .ok (.ifCond .eq 36, 3) := by decide +kernel
theorem dX6_valueAt_13 : decode cX6_valueAt 13 = .ok (.iload_n 2, 1) := by decide +kernel
theorem dX6_valueAt_14 : decode cX6_valueAt 14 = .ok (.iconst 0, 1) := by decide +kernel
theorem dX6_valueAt_15 : decode cX6_valueAt 15 = .ok (.aload_n 0, 1) := by decide +kernel
theorem dX6_valueAt_16 : decode cX6_valueAt 16 = .ok (.iload_n 1, 1) := by decide +kernel
theorem dX6_valueAt_17 : decode cX6_valueAt 17 = .ok (.invokevirtual 109, 3) := by decide +kernel
theorem dX6_valueAt_20 : decode cX6_valueAt 20 = .ok (.iconst 1, 1) := by decide +kernel
theorem dX6_valueAt_21 : decode cX6_valueAt 21 = .ok (.isub, 1) := by decide +kernel
theorem dX6_valueAt_22 : decode cX6_valueAt 22 = .ok (.invokestatic 35, 3) := by decide +kernel
theorem dX6_valueAt_25 : decode cX6_valueAt 25 = .ok (.ifCond .eq 21, 3) := by decide +kernel
theorem dX6_valueAt_28 : decode cX6_valueAt 28 = .ok (.aload_n 0, 1) := by decide +kernel
theorem dX6_valueAt_29 : decode cX6_valueAt 29 = .ok (.getfield 22, 3) := by decide +kernel
theorem dX6_valueAt_32 : decode cX6_valueAt 32 = .ok (.sipush 172, 3) := by decide +kernel
theorem dX6_valueAt_35 : decode cX6_valueAt 35 = .ok (.bipush 8, 2) := by decide +kernel
theorem dX6_valueAt_37 : decode cX6_valueAt 37 = .ok (.iload_n 1, 1) := by decide +kernel
theorem dX6_valueAt_38 : decode cX6_valueAt 38 = .ok (.imul, 1) := by decide +kernel
theorem dX6_valueAt_39 : decode cX6_valueAt 39 = .ok (.iadd, 1) := by decide +kernel
theorem dX6_valueAt_40 : decode cX6_valueAt 40 = .ok (.iload_n 2, 1) := by decide +kernel
theorem dX6_valueAt_41 : decode cX6_valueAt 41 = .ok (.iadd, 1) := by decide +kernel
theorem dX6_valueAt_42 : decode cX6_valueAt 42 = .ok (.iaload, 1) := by decide +kernel
theorem dX6_valueAt_43 : decode cX6_valueAt 43 = .ok (.goto 8, 3) := by decide +kernel
theorem dX6_valueAt_46 : decode cX6_valueAt 46 = .ok (.aload_n 0, 1) := by decide +kernel
theorem dX6_valueAt_47 : decode cX6_valueAt 47 = .ok (.iconst 1, 1) := by decide +kernel
theorem dX6_valueAt_48 : decode cX6_valueAt 48 = .ok (.invokevirtual 79, 3) := by decide +kernel
theorem dX6_valueAt_51 : decode cX6_valueAt 51 = .ok (.ireturn, 1) := by decide +kernel
theorem dX6_waiting_0 : decode cX6_waiting 0 = .ok (.iconst 0, 1) := by decide +kernel
theorem dX6_waiting_1 : decode cX6_waiting 1 = .ok (.istore_n 3, 1) := by decide +kernel
theorem dX6_waiting_2 : decode cX6_waiting 2 = .ok (.iconst 0, 1) := by decide +kernel
theorem dX6_waiting_3 : decode cX6_waiting 3 = .ok (.istore 4, 2) := by decide +kernel
theorem dX6_waiting_5 : decode cX6_waiting 5 = .ok (.iload 4, 2) := by decide +kernel
theorem dX6_waiting_7 : decode cX6_waiting 7 = .ok (.aload_n 0, 1) := by decide +kernel
theorem dX6_waiting_8 : decode cX6_waiting 8 = .ok (.getfield 39, 3) := by decide +kernel
theorem dX6_waiting_11 : decode cX6_waiting 11 = .ok (.if_icmp .ge 28, 3) := by decide +kernel
theorem dX6_waiting_14 : decode cX6_waiting 14 = .ok (.iload_n 3, 1) := by decide +kernel
theorem dX6_waiting_15 : decode cX6_waiting 15 = .ok (.aload_n 0, 1) := by decide +kernel
theorem dX6_waiting_16 : decode cX6_waiting 16 = .ok (.iload 4, 2) := by decide +kernel
theorem dX6_waiting_18 : decode cX6_waiting 18 = .ok (.iload_n 2, 1) := by decide +kernel
theorem dX6_waiting_19 : decode cX6_waiting 19 = .ok (.iload_n 1, 1) := by decide +kernel
theorem dX6_waiting_20 : decode cX6_waiting 20 = .ok (.invokevirtual 48, 3) := by decide +kernel
theorem dX6_waiting_23 : decode cX6_waiting 23 = .ok (.ifCond .eq 7, 3) := by decide +kernel
theorem dX6_waiting_26 : decode cX6_waiting 26 = .ok (.iconst 1, 1) := by decide +kernel
theorem dX6_waiting_27 : decode cX6_waiting 27 = .ok (.goto 4, 3) := by decide +kernel
theorem dX6_waiting_30 : decode cX6_waiting 30 = .ok (.iconst 0, 1) := by decide +kernel
theorem dX6_waiting_31 : decode cX6_waiting 31 = .ok (.iadd, 1) := by decide +kernel
theorem dX6_waiting_32 : decode cX6_waiting 32 = .ok (.istore_n 3, 1) := by decide +kernel
theorem dX6_waiting_33 : decode cX6_waiting 33 = .ok (.iinc 4 1, 3) := by decide +kernel
theorem dX6_waiting_36 : decode cX6_waiting 36 = .ok (.goto (-31), 3) := by decide +kernel
theorem dX6_waiting_39 : decode cX6_waiting 39 = .ok (.iload_n 3, 1) := by decide +kernel
theorem dX6_waiting_40 : decode cX6_waiting 40 = .ok (.ireturn, 1) := by decide +kernel
theorem dX6_sendersAt_0 : decode cX6_sendersAt 0 = .ok (.aload_n 0, 1) := by decide +kernel
theorem dX6_sendersAt_1 : decode cX6_sendersAt 1 = .ok (.iconst 0, 1) := by decide +kernel
theorem dX6_sendersAt_2 : decode cX6_sendersAt 2 = .ok (.putfield 28, 3) := by decide +kernel
theorem dX6_sendersAt_5 : decode cX6_sendersAt 5 = .ok (.aload_n 0, 1) := by decide +kernel
theorem dX6_sendersAt_6 : decode cX6_sendersAt 6 = .ok (.iload_n 1, 1) := by decide +kernel
theorem dX6_sendersAt_7 : decode cX6_sendersAt 7 = .ok (.invokevirtual 82, 3) := by decide +kernel
theorem dX6_sendersAt_10 : decode cX6_sendersAt 10 = .ok (.ifCond .eq 12, 3) := by decide +kernel
theorem dX6_sendersAt_13 : decode cX6_sendersAt 13 = .ok (.aload_n 0, 1) := by decide +kernel
theorem dX6_sendersAt_14 : decode cX6_sendersAt 14 = .ok (.iload_n 1, 1) := by decide +kernel
theorem dX6_sendersAt_15 : decode cX6_sendersAt 15 = .ok (.iconst 1, 1) := by decide +kernel
theorem dX6_sendersAt_16 : decode cX6_sendersAt 16 = .ok (.invokevirtual 112, 3) := by decide +kernel
theorem dX6_sendersAt_19 : decode cX6_sendersAt 19 = .ok (.goto 8, 3) := by decide +kernel
theorem dX6_sendersAt_22 : decode cX6_sendersAt 22 = .ok (.aload_n 0, 1) := by decide +kernel
theorem dX6_sendersAt_23 : decode cX6_sendersAt 23 = .ok (.iconst 1, 1) := by decide +kernel
theorem dX6_sendersAt_24 : decode cX6_sendersAt 24 = .ok (.invokevirtual 79, 3) := by decide +kernel
theorem dX6_sendersAt_27 : decode cX6_sendersAt 27 = .ok (.ireturn, 1) := by decide +kernel
theorem dX6_takersAt_0 : decode cX6_takersAt 0 = .ok (.aload_n 0, 1) := by decide +kernel
theorem dX6_takersAt_1 : decode cX6_takersAt 1 = .ok (.iconst 0, 1) := by decide +kernel
theorem dX6_takersAt_2 : decode cX6_takersAt 2 = .ok (.putfield 28, 3) := by decide +kernel
theorem dX6_takersAt_5 : decode cX6_takersAt 5 = .ok (.aload_n 0, 1) := by decide +kernel
theorem dX6_takersAt_6 : decode cX6_takersAt 6 = .ok (.iload_n 1, 1) := by decide +kernel
theorem dX6_takersAt_7 : decode cX6_takersAt 7 = .ok (.invokevirtual 82, 3) := by decide +kernel
theorem dX6_takersAt_10 : decode cX6_takersAt 10 = .ok (.ifCond .eq 12, 3) := by decide +kernel
theorem dX6_takersAt_13 : decode cX6_takersAt 13 = .ok (.aload_n 0, 1) := by decide +kernel
theorem dX6_takersAt_14 : decode cX6_takersAt 14 = .ok (.iload_n 1, 1) := by decide +kernel
theorem dX6_takersAt_15 : decode cX6_takersAt 15 = .ok (.iconst 2, 1) := by decide +kernel
theorem dX6_takersAt_16 : decode cX6_takersAt 16 = .ok (.invokevirtual 112, 3) := by decide +kernel
theorem dX6_takersAt_19 : decode cX6_takersAt 19 = .ok (.goto 8, 3) := by decide +kernel
theorem dX6_takersAt_22 : decode cX6_takersAt 22 = .ok (.aload_n 0, 1) := by decide +kernel
theorem dX6_takersAt_23 : decode cX6_takersAt 23 = .ok (.iconst 1, 1) := by decide +kernel
theorem dX6_takersAt_24 : decode cX6_takersAt 24 = .ok (.invokevirtual 79, 3) := by decide +kernel
theorem dX6_takersAt_27 : decode cX6_takersAt 27 = .ok (.ireturn, 1) := by decide +kernel
theorem dX6_ofFiber_0 : decode cX6_ofFiber 0 = .ok (.aload_n 0, 1) := by decide +kernel
theorem dX6_ofFiber_1 : decode cX6_ofFiber 1 = .ok (.iconst 0, 1) := by decide +kernel
theorem dX6_ofFiber_2 : decode cX6_ofFiber 2 = .ok (.putfield 28, 3) := by decide +kernel
theorem dX6_ofFiber_5 : decode cX6_ofFiber 5 = .ok (.aload_n 0, 1) := by decide +kernel
theorem dX6_ofFiber_6 : decode cX6_ofFiber 6 = .ok (.iload_n 1, 1) := by decide +kernel
theorem dX6_ofFiber_7 : decode cX6_ofFiber 7 = .ok (.invokevirtual 85, 3) := by decide +kernel
theorem dX6_ofFiber_10 : decode cX6_ofFiber 10 = .ok (.ifCond .eq 14, 3) := by decide +kernel
theorem dX6_ofFiber_13 : decode cX6_ofFiber 13 = .ok (.aload_n 0, 1) := by decide +kernel
theorem dX6_ofFiber_14 : decode cX6_ofFiber 14 = .ok (.getfield 22, 3) := by decide +kernel
theorem dX6_ofFiber_17 : decode cX6_ofFiber 17 = .ok (.iload_n 2, 1) := by decide +kernel
theorem dX6_ofFiber_18 : decode cX6_ofFiber 18 = .ok (.iload_n 1, 1) := by decide +kernel
theorem dX6_ofFiber_19 : decode cX6_ofFiber 19 = .ok (.iadd, 1) := by decide +kernel
theorem dX6_ofFiber_20 : decode cX6_ofFiber 20 = .ok (.iaload, 1) := by decide +kernel
theorem dX6_ofFiber_21 : decode cX6_ofFiber 21 = .ok (.goto 8, 3) := by decide +kernel
theorem dX6_ofFiber_24 : decode cX6_ofFiber 24 = .ok (.aload_n 0, 1) := by decide +kernel
theorem dX6_ofFiber_25 : decode cX6_ofFiber 25 = .ok (.iconst 1, 1) := by decide +kernel
theorem dX6_ofFiber_26 : decode cX6_ofFiber 26 = .ok (.invokevirtual 79, 3) := by decide +kernel
theorem dX6_ofFiber_29 : decode cX6_ofFiber 29 = .ok (.ireturn, 1) := by decide +kernel
theorem dX6_stateOf_0 : decode cX6_stateOf 0 = .ok (.aload_n 0, 1) := by decide +kernel
theorem dX6_stateOf_1 : decode cX6_stateOf 1 = .ok (.iload_n 1, 1) := by decide +kernel
theorem dX6_stateOf_2 : decode cX6_stateOf 2 = .ok (.bipush 12, 2) := by decide +kernel
theorem dX6_stateOf_4 : decode cX6_stateOf 4 = .ok (.invokevirtual 116, 3) := by decide +kernel
theorem dX6_stateOf_7 : decode cX6_stateOf 7 = .ok (.ireturn, 1) := by decide +kernel
theorem dX6_placeOf_0 : decode cX6_placeOf 0 = .ok (.aload_n 0, 1) := by decide +kernel
theorem dX6_placeOf_1 : decode cX6_placeOf 1 = .ok (.iload_n 1, 1) := by decide +kernel
theorem dX6_placeOf_2 : decode cX6_placeOf 2 = .ok (.bipush 20, 2) := by decide +kernel
theorem dX6_placeOf_4 : decode cX6_placeOf 4 = .ok (.invokevirtual 116, 3) := by decide +kernel
theorem dX6_placeOf_7 : decode cX6_placeOf 7 = .ok (.ireturn, 1) := by decide +kernel
theorem dX6_sumOf_0 : decode cX6_sumOf 0 = .ok (.aload_n 0, 1) := by decide +kernel
theorem dX6_sumOf_1 : decode cX6_sumOf 1 = .ok (.iload_n 1, 1) := by decide +kernel
theorem dX6_sumOf_2 : decode cX6_sumOf 2 = .ok (.bipush 28, 2) := by decide +kernel
theorem dX6_sumOf_4 : decode cX6_sumOf 4 = .ok (.invokevirtual 116, 3) := by decide +kernel
theorem dX6_sumOf_7 : decode cX6_sumOf 7 = .ok (.ireturn, 1) := by decide +kernel
theorem dX6_stepsDone_0 : decode cX6_stepsDone 0 = .ok (.aload_n 0, 1) := by decide +kernel
theorem dX6_stepsDone_1 : decode cX6_stepsDone 1 = .ok (.iload_n 1, 1) := by decide +kernel
theorem dX6_stepsDone_2 : decode cX6_stepsDone 2 = .ok (.bipush 36, 2) := by decide +kernel
theorem dX6_stepsDone_4 : decode cX6_stepsDone 4 = .ok (.invokevirtual 116, 3) := by decide +kernel
theorem dX6_stepsDone_7 : decode cX6_stepsDone 7 = .ok (.ireturn, 1) := by decide +kernel
theorem dX6_turnsOf_0 : decode cX6_turnsOf 0 = .ok (.aload_n 0, 1) := by decide +kernel
theorem dX6_turnsOf_1 : decode cX6_turnsOf 1 = .ok (.iload_n 1, 1) := by decide +kernel
theorem dX6_turnsOf_2 : decode cX6_turnsOf 2 = .ok (.bipush 44, 2) := by decide +kernel
theorem dX6_turnsOf_4 : decode cX6_turnsOf 4 = .ok (.invokevirtual 116, 3) := by decide +kernel
theorem dX6_turnsOf_7 : decode cX6_turnsOf 7 = .ok (.ireturn, 1) := by decide +kernel
theorem dX6_inLine_0 : decode cX6_inLine 0 = .ok (.iconst 0, 1) := by decide +kernel
theorem dX6_inLine_1 : decode cX6_inLine 1 = .ok (.istore_n 2, 1) := by decide +kernel
theorem dX6_inLine_2 : decode cX6_inLine 2 = .ok (.iload_n 2, 1) := by decide +kernel
theorem dX6_inLine_3 : decode cX6_inLine 3 = .ok (.aload_n 0, 1) := by decide +kernel
theorem dX6_inLine_4 : decode cX6_inLine 4 = .ok (.getfield 22, 3) := by decide +kernel
theorem dX6_inLine_7 : decode cX6_inLine 7 = .ok (.iconst 3, 1) := by decide +kernel
theorem dX6_inLine_8 : decode cX6_inLine 8 = .ok (.iaload, 1) := by decide +kernel
theorem dX6_inLine_9 : decode cX6_inLine 9 = .ok (.if_icmp .ge 23, 3) := by decide +kernel
theorem dX6_inLine_12 : decode cX6_inLine 12 = .ok (.aload_n 0, 1) := by decide +kernel
theorem dX6_inLine_13 : decode cX6_inLine 13 = .ok (.getfield 22, 3) := by decide +kernel
theorem dX6_inLine_16 : decode cX6_inLine 16 = .ok (.iconst 4, 1) := by decide +kernel
theorem dX6_inLine_17 : decode cX6_inLine 17 = .ok (.iload_n 2, 1) := by decide +kernel
theorem dX6_inLine_18 : decode cX6_inLine 18 = .ok (.iadd, 1) := by decide +kernel
theorem dX6_inLine_19 : decode cX6_inLine 19 = .ok (.iaload, 1) := by decide +kernel
theorem dX6_inLine_20 : decode cX6_inLine 20 = .ok (.iload_n 1, 1) := by decide +kernel
theorem dX6_inLine_21 : decode cX6_inLine 21 = .ok (.if_icmp .ne 5, 3) := by decide +kernel
theorem dX6_inLine_24 : decode cX6_inLine 24 = .ok (.iload_n 2, 1) := by decide +kernel
theorem dX6_inLine_25 : decode cX6_inLine 25 = .ok (.ireturn, 1) := by decide +kernel
theorem dX6_inLine_26 : decode cX6_inLine 26 = .ok (.iinc 2 1, 3) := by decide +kernel
theorem dX6_inLine_29 : decode cX6_inLine 29 = .ok (.goto (-27), 3) := by decide +kernel
theorem dX6_inLine_32 : decode cX6_inLine 32 = .ok (.iconst (-1), 1) := by decide +kernel
theorem dX6_inLine_33 : decode cX6_inLine 33 = .ok (.ireturn, 1) := by decide +kernel
theorem dX6_placeInLine_0 : decode cX6_placeInLine 0 = .ok (.aload_n 0, 1) := by decide +kernel
theorem dX6_placeInLine_1 : decode cX6_placeInLine 1 = .ok (.iconst 0, 1) := by decide +kernel
theorem dX6_placeInLine_2 : decode cX6_placeInLine 2 = .ok (.putfield 28, 3) := by decide +kernel
theorem dX6_placeInLine_5 : decode cX6_placeInLine 5 = .ok (.aload_n 0, 1) := by decide +kernel
theorem dX6_placeInLine_6 : decode cX6_placeInLine 6 = .ok (.iload_n 1, 1) := by decide +kernel
theorem dX6_placeInLine_7 : decode cX6_placeInLine 7 = .ok (.invokevirtual 85, 3) := by decide +kernel
theorem dX6_placeInLine_10 : decode cX6_placeInLine 10 = .ok (.ifCond .eq 11, 3) := by decide +kernel
theorem dX6_placeInLine_13 : decode cX6_placeInLine 13 = .ok (.aload_n 0, 1) := by decide +kernel
theorem dX6_placeInLine_14 : decode cX6_placeInLine 14 = .ok (.iload_n 1, 1) := by decide +kernel
theorem dX6_placeInLine_15 : decode cX6_placeInLine 15 = .ok (.invokevirtual 119, 3) := by decide +kernel
theorem dX6_placeInLine_18 : decode cX6_placeInLine 18 = .ok (.goto 8, 3) := by decide +kernel
theorem dX6_placeInLine_21 : decode cX6_placeInLine 21 = .ok (.aload_n 0, 1) := by decide +kernel
theorem dX6_placeInLine_22 : decode cX6_placeInLine 22 = .ok (.iconst 1, 1) := by decide +kernel
theorem dX6_placeInLine_23 : decode cX6_placeInLine 23 = .ok (.invokevirtual 79, 3) := by decide +kernel
theorem dX6_placeInLine_26 : decode cX6_placeInLine 26 = .ok (.ireturn, 1) := by decide +kernel
theorem dX6_untilDone_0 : decode cX6_untilDone 0 = .ok (.aload_n 0, 1) := by decide +kernel
theorem dX6_untilDone_1 : decode cX6_untilDone 1 = .ok (.invokevirtual 122, 3) := by decide +kernel
theorem dX6_untilDone_4 : decode cX6_untilDone 4 = .ok (.iconst 0, 1) := by decide +kernel
theorem dX6_untilDone_5 : decode cX6_untilDone 5 = .ok (.istore_n 2, 1) := by decide +kernel
theorem dX6_untilDone_6 : decode cX6_untilDone 6 = .ok (.iload_n 2, 1) := by decide +kernel
theorem dX6_untilDone_7 : decode cX6_untilDone 7 = .ok (.sipush 200, 3) := by decide +kernel
theorem dX6_untilDone_10 : decode cX6_untilDone 10 = .ok (.if_icmp .gt 26, 3) := by decide +kernel
theorem dX6_untilDone_13 : decode cX6_untilDone 13 = .ok (.aload_n 0, 1) := by decide +kernel
theorem dX6_untilDone_14 : decode cX6_untilDone 14 = .ok (.getfield 22, 3) := by decide +kernel
theorem dX6_untilDone_17 : decode cX6_untilDone 17 = .ok (.bipush 12, 2) := by decide +kernel
theorem dX6_untilDone_19 : decode cX6_untilDone 19 = .ok (.iload_n 1, 1) := by decide +kernel
theorem dX6_untilDone_20 : decode cX6_untilDone 20 = .ok (.iadd, 1) := by decide +kernel
theorem dX6_untilDone_21 : decode cX6_untilDone 21 = .ok (.iaload, 1) := by decide +kernel
theorem dX6_untilDone_22 : decode cX6_untilDone 22 = .ok (.iconst 5, 1) := by decide +kernel
theorem dX6_untilDone_23 : decode cX6_untilDone 23 = .ok (.if_icmp .eq 13, 3) := by decide +kernel
theorem dX6_untilDone_26 : decode cX6_untilDone 26 = .ok (.aload_n 0, 1) := by decide +kernel
theorem dX6_untilDone_27 : decode cX6_untilDone 27 = .ok (.invokevirtual 92, 3) := by decide +kernel
theorem dX6_untilDone_30 : decode cX6_untilDone 30 = .ok (.iinc 2 1, 3) := by decide +kernel
theorem dX6_untilDone_33 : decode cX6_untilDone 33 = .ok (.goto (-27), 3) := by decide +kernel
theorem dX6_untilDone_36 : decode cX6_untilDone 36 = .ok (.aload_n 0, 1) := by decide +kernel
theorem dX6_untilDone_37 : decode cX6_untilDone 37 = .ok (.invokevirtual 125, 3) := by decide +kernel
theorem dX6_untilDone_40 : decode cX6_untilDone 40 = .ok (.iload_n 2, 1) := by decide +kernel
theorem dX6_untilDone_41 : decode cX6_untilDone 41 = .ok (.sipush 200, 3) := by decide +kernel
theorem dX6_untilDone_44 : decode cX6_untilDone 44 = .ok (.if_icmp .le 7, 3) := by decide +kernel
theorem dX6_untilDone_47 : decode cX6_untilDone 47 = .ok (.iconst (-1), 1) := by decide +kernel
theorem dX6_untilDone_48 : decode cX6_untilDone 48 = .ok (.goto 4, 3) := by decide +kernel
theorem dX6_untilDone_51 : decode cX6_untilDone 51 = .ok (.iload_n 2, 1) := by decide +kernel
theorem dX6_untilDone_52 : decode cX6_untilDone 52 = .ok (.ireturn, 1) := by decide +kernel
theorem dX6_turnsUntilDone_0 : decode cX6_turnsUntilDone 0 = .ok (.aload_n 0, 1) := by decide +kernel
theorem dX6_turnsUntilDone_1 : decode cX6_turnsUntilDone 1 = .ok (.iconst 0, 1) := by decide +kernel
theorem dX6_turnsUntilDone_2 : decode cX6_turnsUntilDone 2 = .ok (.putfield 28, 3) := by decide +kernel
theorem dX6_turnsUntilDone_5 : decode cX6_turnsUntilDone 5 = .ok (.aload_n 0, 1) := by decide +kernel
theorem dX6_turnsUntilDone_6 : decode cX6_turnsUntilDone 6 = .ok (.iload_n 1, 1) := by decide +kernel
theorem dX6_turnsUntilDone_7 : decode cX6_turnsUntilDone 7 = .ok (.invokevirtual 85, 3) := by decide +kernel
theorem dX6_turnsUntilDone_10 : decode cX6_turnsUntilDone 10 = .ok (.ifCond .eq 11, 3) := by decide +kernel
theorem dX6_turnsUntilDone_13 : decode cX6_turnsUntilDone 13 = .ok (.aload_n 0, 1) := by decide +kernel
theorem dX6_turnsUntilDone_14 : decode cX6_turnsUntilDone 14 = .ok (.iload_n 1, 1) := by decide +kernel
theorem dX6_turnsUntilDone_15 : decode cX6_turnsUntilDone 15 = .ok (.invokevirtual 128, 3) := by decide +kernel
theorem dX6_turnsUntilDone_18 : decode cX6_turnsUntilDone 18 = .ok (.goto 8, 3) := by decide +kernel
theorem dX6_turnsUntilDone_21 : decode cX6_turnsUntilDone 21 = .ok (.aload_n 0, 1) := by decide +kernel
theorem dX6_turnsUntilDone_22 : decode cX6_turnsUntilDone 22 = .ok (.iconst 1, 1) := by decide +kernel
theorem dX6_turnsUntilDone_23 : decode cX6_turnsUntilDone 23 = .ok (.invokevirtual 79, 3) := by decide +kernel
theorem dX6_turnsUntilDone_26 : decode cX6_turnsUntilDone 26 = .ok (.ireturn, 1) := by decide +kernel
theorem dX6_untilStuck_0 : decode cX6_untilStuck 0 = .ok (.aload_n 0, 1) := by decide +kernel
theorem dX6_untilStuck_1 : decode cX6_untilStuck 1 = .ok (.invokevirtual 122, 3) := by decide +kernel
theorem dX6_untilStuck_4 : decode cX6_untilStuck 4 = .ok (.iconst 0, 1) := by decide +kernel
theorem dX6_untilStuck_5 : decode cX6_untilStuck 5 = .ok (.istore_n 1, 1) := by decide +kernel
theorem dX6_untilStuck_6 : decode cX6_untilStuck 6 = .ok (.iload_n 1, 1) := by decide +kernel
theorem dX6_untilStuck_7 : decode cX6_untilStuck 7 = .ok (.sipush 200, 3) := by decide +kernel
theorem dX6_untilStuck_10 : decode cX6_untilStuck 10 = .ok (.if_icmp .gt 20, 3) := by decide +kernel
theorem dX6_untilStuck_13 : decode cX6_untilStuck 13 = .ok (.aload_n 0, 1) := by decide +kernel
theorem dX6_untilStuck_14 : decode cX6_untilStuck 14 = .ok (.invokevirtual 105, 3) := by decide +kernel
theorem dX6_untilStuck_17 : decode cX6_untilStuck 17 = .ok (.ifCond .ne 13, 3) := by decide +kernel
theorem dX6_untilStuck_20 : decode cX6_untilStuck 20 = .ok (.aload_n 0, 1) := by decide +kernel
theorem dX6_untilStuck_21 : decode cX6_untilStuck 21 = .ok (.invokevirtual 92, 3) := by decide +kernel
theorem dX6_untilStuck_24 : decode cX6_untilStuck 24 = .ok (.iinc 1 1, 3) := by decide +kernel
theorem dX6_untilStuck_27 : decode cX6_untilStuck 27 = .ok (.goto (-21), 3) := by decide +kernel
theorem dX6_untilStuck_30 : decode cX6_untilStuck 30 = .ok (.aload_n 0, 1) := by decide +kernel
theorem dX6_untilStuck_31 : decode cX6_untilStuck 31 = .ok (.invokevirtual 125, 3) := by decide +kernel
theorem dX6_untilStuck_34 : decode cX6_untilStuck 34 = .ok (.iload_n 1, 1) := by decide +kernel
theorem dX6_untilStuck_35 : decode cX6_untilStuck 35 = .ok (.sipush 200, 3) := by decide +kernel
theorem dX6_untilStuck_38 : decode cX6_untilStuck 38 = .ok (.if_icmp .le 7, 3) := by decide +kernel
theorem dX6_untilStuck_41 : decode cX6_untilStuck 41 = .ok (.iconst (-1), 1) := by decide +kernel
theorem dX6_untilStuck_42 : decode cX6_untilStuck 42 = .ok (.goto 4, 3) := by decide +kernel
theorem dX6_untilStuck_45 : decode cX6_untilStuck 45 = .ok (.iload_n 1, 1) := by decide +kernel
theorem dX6_untilStuck_46 : decode cX6_untilStuck 46 = .ok (.ireturn, 1) := by decide +kernel
theorem dX6_turnsUntilStuck_0 : decode cX6_turnsUntilStuck 0 = .ok (.aload_n 0, 1) := by decide +kernel
theorem dX6_turnsUntilStuck_1 : decode cX6_turnsUntilStuck 1 = .ok (.aload_n 0, 1) := by decide +kernel
theorem dX6_turnsUntilStuck_2 : decode cX6_turnsUntilStuck 2 = .ok (.invokevirtual 131, 3) := by decide +kernel
theorem dX6_turnsUntilStuck_5 : decode cX6_turnsUntilStuck 5 = .ok (.invokevirtual 95, 3) := by decide +kernel
theorem dX6_turnsUntilStuck_8 : decode cX6_turnsUntilStuck 8 = .ok (.ireturn, 1) := by decide +kernel
theorem dX6_sumIn_0 : decode cX6_sumIn 0 = .ok (.aload_n 0, 1) := by decide +kernel
theorem dX6_sumIn_1 : decode cX6_sumIn 1 = .ok (.iconst 0, 1) := by decide +kernel
theorem dX6_sumIn_2 : decode cX6_sumIn 2 = .ok (.putfield 28, 3) := by decide +kernel
theorem dX6_sumIn_5 : decode cX6_sumIn 5 = .ok (.aload_n 0, 1) := by decide +kernel
theorem dX6_sumIn_6 : decode cX6_sumIn 6 = .ok (.iload_n 1, 1) := by decide +kernel
theorem dX6_sumIn_7 : decode cX6_sumIn 7 = .ok (.invokevirtual 85, 3) := by decide +kernel
theorem dX6_sumIn_10 : decode cX6_sumIn 10 = .ok (.ifCond .ne 9, 3) := by decide +kernel
theorem dX6_sumIn_13 : decode cX6_sumIn 13 = .ok (.aload_n 0, 1) := by decide +kernel
theorem dX6_sumIn_14 : decode cX6_sumIn 14 = .ok (.iconst 1, 1) := by decide +kernel
theorem dX6_sumIn_15 : decode cX6_sumIn 15 = .ok (.invokevirtual 79, 3) := by decide +kernel
theorem dX6_sumIn_18 : decode cX6_sumIn 18 = .ok (.ireturn, 1) := by decide +kernel
theorem dX6_sumIn_19 : decode cX6_sumIn 19 = .ok (.iload_n 2, 1) := by decide +kernel
theorem dX6_sumIn_20 : decode cX6_sumIn 20 = .ok (.iconst 1, 1) := by decide +kernel
theorem dX6_sumIn_21 : decode cX6_sumIn 21 = .ok (.bipush 60, 2) := by decide +kernel
theorem dX6_sumIn_23 : decode cX6_sumIn 23 = .ok (.invokestatic 35, 3) := by decide +kernel
theorem dX6_sumIn_26 : decode cX6_sumIn 26 = .ok (.ifCond .ne 9, 3) := by decide +kernel
theorem dX6_sumIn_29 : decode cX6_sumIn 29 = .ok (.aload_n 0, 1) := by decide +kernel
theorem dX6_sumIn_30 : decode cX6_sumIn 30 = .ok (.iconst 2, 1) := by decide +kernel
theorem dX6_sumIn_31 : decode cX6_sumIn 31 = .ok (.invokevirtual 79, 3) := by decide +kernel
theorem dX6_sumIn_34 : decode cX6_sumIn 34 = .ok (.ireturn, 1) := by decide +kernel
theorem dX6_sumIn_35 : decode cX6_sumIn 35 = .ok (.aload_n 0, 1) := by decide +kernel
theorem dX6_sumIn_36 : decode cX6_sumIn 36 = .ok (.invokevirtual 122, 3) := by decide +kernel
theorem dX6_sumIn_39 : decode cX6_sumIn 39 = .ok (.iconst 0, 1) := by decide +kernel
theorem dX6_sumIn_40 : decode cX6_sumIn 40 = .ok (.istore_n 3, 1) := by decide +kernel
theorem dX6_sumIn_41 : decode cX6_sumIn 41 = .ok (.iload_n 3, 1) := by decide +kernel
theorem dX6_sumIn_42 : decode cX6_sumIn 42 = .ok (.iload_n 2, 1) := by decide +kernel
theorem dX6_sumIn_43 : decode cX6_sumIn 43 = .ok (.if_icmp .ge 13, 3) := by decide +kernel
theorem dX6_sumIn_46 : decode cX6_sumIn 46 = .ok (.aload_n 0, 1) := by decide +kernel
theorem dX6_sumIn_47 : decode cX6_sumIn 47 = .ok (.invokevirtual 92, 3) := by decide +kernel
theorem dX6_sumIn_50 : decode cX6_sumIn 50 = .ok (.iinc 3 1, 3) := by decide +kernel
theorem dX6_sumIn_53 : decode cX6_sumIn 53 = .ok (.goto (-12), 3) := by decide +kernel
theorem dX6_sumIn_56 : decode cX6_sumIn 56 = .ok (.aload_n 0, 1) := by decide +kernel
theorem dX6_sumIn_57 : decode cX6_sumIn 57 = .ok (.getfield 22, 3) := by decide +kernel
theorem dX6_sumIn_60 : decode cX6_sumIn 60 = .ok (.bipush 28, 2) := by decide +kernel
theorem dX6_sumIn_62 : decode cX6_sumIn 62 = .ok (.iload_n 1, 1) := by decide +kernel
theorem dX6_sumIn_63 : decode cX6_sumIn 63 = .ok (.iadd, 1) := by decide +kernel
theorem dX6_sumIn_64 : decode cX6_sumIn 64 = .ok (.iaload, 1) := by decide +kernel
theorem dX6_sumIn_65 : decode cX6_sumIn 65 = .ok (.istore_n 3, 1) := by decide +kernel
theorem dX6_sumIn_66 : decode cX6_sumIn 66 = .ok (.aload_n 0, 1) := by decide +kernel
theorem dX6_sumIn_67 : decode cX6_sumIn 67 = .ok (.invokevirtual 125, 3) := by decide +kernel
theorem dX6_sumIn_70 : decode cX6_sumIn 70 = .ok (.iload_n 3, 1) := by decide +kernel
theorem dX6_sumIn_71 : decode cX6_sumIn 71 = .ok (.ireturn, 1) := by decide +kernel
theorem dX6_roomFor_0 : decode cX6_roomFor 0 = .ok (.aload_n 0, 1) := by decide +kernel
theorem dX6_roomFor_1 : decode cX6_roomFor 1 = .ok (.invokevirtual 122, 3) := by decide +kernel
theorem dX6_roomFor_4 : decode cX6_roomFor 4 = .ok (.iconst (-1), 1) := by decide +kernel
theorem dX6_roomFor_5 : decode cX6_roomFor 5 = .ok (.istore_n 2, 1) := by decide +kernel
theorem dX6_roomFor_6 : decode cX6_roomFor 6 = .ok (.aload_n 0, 1) := by decide +kernel
theorem dX6_roomFor_7 : decode cX6_roomFor 7 = .ok (.getfield 25, 3) := by decide +kernel
theorem dX6_roomFor_10 : decode cX6_roomFor 10 = .ok (.sipush 164, 3) := by decide +kernel
theorem dX6_roomFor_13 : decode cX6_roomFor 13 = .ok (.iload_n 1, 1) := by decide +kernel
theorem dX6_roomFor_14 : decode cX6_roomFor 14 = .ok (.iadd, 1) := by decide +kernel
theorem dX6_roomFor_15 : decode cX6_roomFor 15 = .ok (.iaload, 1) := by decide +kernel
theorem dX6_roomFor_16 : decode cX6_roomFor 16 = .ok (.istore_n 3, 1) := by decide +kernel
theorem dX6_roomFor_17 : decode cX6_roomFor 17 = .ok (.iload_n 3, 1) := by decide +kernel
theorem dX6_roomFor_18 : decode cX6_roomFor 18 = .ok (.bipush 8, 2) := by decide +kernel
theorem dX6_roomFor_20 : decode cX6_roomFor 20 = .ok (.if_icmp .gt 75, 3) := by decide +kernel
theorem dX6_roomFor_23 : decode cX6_roomFor 23 = .ok (.iload_n 2, 1) := by decide +kernel
theorem dX6_roomFor_24 : decode cX6_roomFor 24 = .ok (.iconst (-1), 1) := by decide +kernel
theorem dX6_roomFor_25 : decode cX6_roomFor 25 = .ok (.if_icmp .ne 70, 3) := by decide +kernel
theorem dX6_roomFor_28 : decode cX6_roomFor 28 = .ok (.aload_n 0, 1) := by decide +kernel
theorem dX6_roomFor_29 : decode cX6_roomFor 29 = .ok (.getfield 22, 3) := by decide +kernel
theorem dX6_roomFor_32 : decode cX6_roomFor 32 = .ok (.sipush 164, 3) := by decide +kernel
theorem dX6_roomFor_35 : decode cX6_roomFor 35 = .ok (.iload_n 1, 1) := by decide +kernel
theorem dX6_roomFor_36 : decode cX6_roomFor 36 = .ok (.iadd, 1) := by decide +kernel
theorem dX6_roomFor_37 : decode cX6_roomFor 37 = .ok (.iload_n 3, 1) := by decide +kernel
theorem dX6_roomFor_38 : decode cX6_roomFor 38 = .ok (.iastore, 1) := by decide +kernel
theorem dX6_roomFor_39 : decode cX6_roomFor 39 = .ok (.iconst 0, 1) := by decide +kernel
theorem dX6_roomFor_40 : decode cX6_roomFor 40 = .ok (.istore 4, 2) := by decide +kernel
theorem dX6_roomFor_42 : decode cX6_roomFor 42 = .ok (.iload 4, 2) := by decide +kernel
theorem dX6_roomFor_44 : decode cX6_roomFor 44 = .ok (.bipush 100, 2) := by decide +kernel
theorem dX6_roomFor_46 : decode cX6_roomFor 46 = .ok (.if_icmp .ge 25, 3) := by decide +kernel
theorem dX6_roomFor_49 : decode cX6_roomFor 49 = .ok (.aload_n 0, 1) := by decide +kernel
theorem dX6_roomFor_50 : decode cX6_roomFor 50 = .ok (.iconst 5, 1) := by decide +kernel
theorem dX6_roomFor_51 : decode cX6_roomFor 51 = .ok (.invokevirtual 98, 3) := by decide +kernel
theorem dX6_roomFor_54 : decode cX6_roomFor 54 = .ok (.aload_n 0, 1) := by decide +kernel
theorem dX6_roomFor_55 : decode cX6_roomFor 55 = .ok (.getfield 39, 3) := by decide +kernel
theorem dX6_roomFor_58 : decode cX6_roomFor 58 = .ok (.if_icmp .ge 13, 3) := by decide +kernel
theorem dX6_roomFor_61 : decode cX6_roomFor 61 = .ok (.aload_n 0, 1) := by decide +kernel
theorem dX6_roomFor_62 : decode cX6_roomFor 62 = .ok (.invokevirtual 92, 3) := by decide +kernel
theorem dX6_roomFor_65 : decode cX6_roomFor 65 = .ok (.iinc 4 1, 3) := by decide +kernel
theorem dX6_roomFor_68 : decode cX6_roomFor 68 = .ok (.goto (-26), 3) := by decide +kernel
theorem dX6_roomFor_71 : decode cX6_roomFor 71 = .ok (.aload_n 0, 1) := by decide +kernel
theorem dX6_roomFor_72 : decode cX6_roomFor 72 = .ok (.iconst 5, 1) := by decide +kernel
theorem dX6_roomFor_73 : decode cX6_roomFor 73 = .ok (.invokevirtual 98, 3) := by decide +kernel
theorem dX6_roomFor_76 : decode cX6_roomFor 76 = .ok (.aload_n 0, 1) := by decide +kernel
theorem dX6_roomFor_77 : decode cX6_roomFor 77 = .ok (.getfield 39, 3) := by decide +kernel
theorem dX6_roomFor_80 : decode cX6_roomFor 80 = .ok (.if_icmp .ne 5, 3) := by decide +kernel
theorem dX6_roomFor_83 : decode cX6_roomFor 83 = .ok (.iload_n 3, 1) := by decide +kernel
theorem dX6_roomFor_84 : decode cX6_roomFor 84 = .ok (.istore_n 2, 1) := by decide +kernel
theorem dX6_roomFor_85 : decode cX6_roomFor 85 = .ok (.aload_n 0, 1) := by decide +kernel
theorem dX6_roomFor_86 : decode cX6_roomFor 86 = .ok (.invokevirtual 125, 3) := by decide +kernel
theorem dX6_roomFor_89 : decode cX6_roomFor 89 = .ok (.iinc 3 1, 3) := by decide +kernel
theorem dX6_roomFor_92 : decode cX6_roomFor 92 = .ok (.goto (-75), 3) := by decide +kernel
theorem dX6_roomFor_95 : decode cX6_roomFor 95 = .ok (.iload_n 2, 1) := by decide +kernel
theorem dX6_roomFor_96 : decode cX6_roomFor 96 = .ok (.ireturn, 1) := by decide +kernel
theorem dX6_placesWanted_0 : decode cX6_placesWanted 0 = .ok (.aload_n 0, 1) := by decide +kernel
theorem dX6_placesWanted_1 : decode cX6_placesWanted 1 = .ok (.iconst 0, 1) := by decide +kernel
theorem dX6_placesWanted_2 : decode cX6_placesWanted 2 = .ok (.putfield 28, 3) := by decide +kernel
theorem dX6_placesWanted_5 : decode cX6_placesWanted 5 = .ok (.aload_n 0, 1) := by decide +kernel
theorem dX6_placesWanted_6 : decode cX6_placesWanted 6 = .ok (.iload_n 1, 1) := by decide +kernel
theorem dX6_placesWanted_7 : decode cX6_placesWanted 7 = .ok (.invokevirtual 82, 3) := by decide +kernel
theorem dX6_placesWanted_10 : decode cX6_placesWanted 10 = .ok (.ifCond .eq 11, 3) := by decide +kernel
theorem dX6_placesWanted_13 : decode cX6_placesWanted 13 = .ok (.aload_n 0, 1) := by decide +kernel
theorem dX6_placesWanted_14 : decode cX6_placesWanted 14 = .ok (.iload_n 1, 1) := by decide +kernel
theorem dX6_placesWanted_15 : decode cX6_placesWanted 15 = .ok (.invokevirtual 134, 3) := by decide +kernel
theorem dX6_placesWanted_18 : decode cX6_placesWanted 18 = .ok (.goto 8, 3) := by decide +kernel
theorem dX6_placesWanted_21 : decode cX6_placesWanted 21 = .ok (.aload_n 0, 1) := by decide +kernel
theorem dX6_placesWanted_22 : decode cX6_placesWanted 22 = .ok (.iconst 1, 1) := by decide +kernel
theorem dX6_placesWanted_23 : decode cX6_placesWanted 23 = .ok (.invokevirtual 79, 3) := by decide +kernel
theorem dX6_placesWanted_26 : decode cX6_placesWanted 26 = .ok (.ireturn, 1) := by decide +kernel
theorem dX6_meanTurns_0 : decode cX6_meanTurns 0 = .ok (.aload_n 0, 1) := by decide +kernel
theorem dX6_meanTurns_1 : decode cX6_meanTurns 1 = .ok (.iconst 0, 1) := by decide +kernel
theorem dX6_meanTurns_2 : decode cX6_meanTurns 2 = .ok (.putfield 28, 3) := by decide +kernel
theorem dX6_meanTurns_5 : decode cX6_meanTurns 5 = .ok (.iconst 0, 1) := by decide +kernel
theorem dX6_meanTurns_6 : decode cX6_meanTurns 6 = .ok (.istore_n 1, 1) := by decide +kernel
theorem dX6_meanTurns_7 : decode cX6_meanTurns 7 = .ok (.iconst 0, 1) := by decide +kernel
theorem dX6_meanTurns_8 : decode cX6_meanTurns 8 = .ok (.istore_n 2, 1) := by decide +kernel
theorem dX6_meanTurns_9 : decode cX6_meanTurns 9 = .ok (.iload_n 2, 1) := by decide +kernel
theorem dX6_meanTurns_10 : decode cX6_meanTurns 10 = .ok (.aload_n 0, 1) := by decide +kernel
theorem dX6_meanTurns_11 : decode cX6_meanTurns 11 = .ok (.getfield 39, 3) := by decide +kernel
theorem dX6_meanTurns_14 : decode cX6_meanTurns 14 = .ok (.if_icmp .ge 21, 3) := by decide +kernel
theorem dX6_meanTurns_17 : decode cX6_meanTurns 17 = .ok (.iload_n 1, 1) := by decide +kernel
theorem dX6_meanTurns_18 : decode cX6_meanTurns 18 = .ok (.aload_n 0, 1) := by decide +kernel
theorem dX6_meanTurns_19 : decode cX6_meanTurns 19 = .ok (.getfield 22, 3) := by decide +kernel
theorem dX6_meanTurns_22 : decode cX6_meanTurns 22 = .ok (.bipush 44, 2) := by decide +kernel
theorem dX6_meanTurns_24 : decode cX6_meanTurns 24 = .ok (.iload_n 2, 1) := by decide +kernel
theorem dX6_meanTurns_25 : decode cX6_meanTurns 25 = .ok (.iadd, 1) := by decide +kernel
theorem dX6_meanTurns_26 : decode cX6_meanTurns 26 = .ok (.iaload, 1) := by decide +kernel
theorem dX6_meanTurns_27 : decode cX6_meanTurns 27 = .ok (.iadd, 1) := by decide +kernel
theorem dX6_meanTurns_28 : decode cX6_meanTurns 28 = .ok (.istore_n 1, 1) := by decide +kernel
theorem dX6_meanTurns_29 : decode cX6_meanTurns 29 = .ok (.iinc 2 1, 3) := by decide +kernel
theorem dX6_meanTurns_32 : decode cX6_meanTurns 32 = .ok (.goto (-23), 3) := by decide +kernel
theorem dX6_meanTurns_35 : decode cX6_meanTurns 35 = .ok (.aload_n 0, 1) := by decide +kernel
theorem dX6_meanTurns_36 : decode cX6_meanTurns 36 = .ok (.getfield 39, 3) := by decide +kernel
theorem dX6_meanTurns_39 : decode cX6_meanTurns 39 = .ok (.ifCond .ne 7, 3) := by decide +kernel
theorem dX6_meanTurns_42 : decode cX6_meanTurns 42 = .ok (.dconst 0, 1) := by decide +kernel
theorem dX6_meanTurns_43 : decode cX6_meanTurns 43 = .ok (.goto 11, 3) := by decide +kernel
theorem dX6_meanTurns_46 : decode cX6_meanTurns 46 = .ok (.iload_n 1, 1) := by decide +kernel
theorem dX6_meanTurns_47 : decode cX6_meanTurns 47 = .ok (.i2d, 1) := by decide +kernel
theorem dX6_meanTurns_48 : decode cX6_meanTurns 48 = .ok (.aload_n 0, 1) := by decide +kernel
theorem dX6_meanTurns_49 : decode cX6_meanTurns 49 = .ok (.getfield 39, 3) := by decide +kernel
theorem dX6_meanTurns_52 : decode cX6_meanTurns 52 = .ok (.i2d, 1) := by decide +kernel
theorem dX6_meanTurns_53 : decode cX6_meanTurns 53 = .ok (.ddiv, 1) := by decide +kernel
theorem dX6_meanTurns_54 : decode cX6_meanTurns 54 = .ok (.dreturn, 1) := by decide +kernel
theorem dX6_digest_0 : decode cX6_digest 0 = .ok (.aload_n 0, 1) := by decide +kernel
theorem dX6_digest_1 : decode cX6_digest 1 = .ok (.iconst 0, 1) := by decide +kernel
theorem dX6_digest_2 : decode cX6_digest 2 = .ok (.putfield 28, 3) := by decide +kernel
theorem dX6_digest_5 : decode cX6_digest 5 = .ok (.bipush 8, 2) := by decide +kernel
theorem dX6_digest_7 : decode cX6_digest 7 = .ok (.newarray .int, 2) := by decide +kernel
theorem dX6_digest_9 : decode cX6_digest 9 = .ok (.dup, 1) := by decide +kernel
theorem dX6_digest_10 : decode cX6_digest 10 = .ok (.iconst 0, 1) := by decide +kernel
theorem dX6_digest_11 : decode cX6_digest 11 = .ok (.aload_n 0, 1) := by decide +kernel
theorem dX6_digest_12 : decode cX6_digest 12 = .ok (.getfield 22, 3) := by decide +kernel
theorem dX6_digest_15 : decode cX6_digest 15 = .ok (.iconst 0, 1) := by decide +kernel
theorem dX6_digest_16 : decode cX6_digest 16 = .ok (.iaload, 1) := by decide +kernel
theorem dX6_digest_17 : decode cX6_digest 17 = .ok (.iastore, 1) := by decide +kernel
theorem dX6_digest_18 : decode cX6_digest 18 = .ok (.dup, 1) := by decide +kernel
theorem dX6_digest_19 : decode cX6_digest 19 = .ok (.iconst 1, 1) := by decide +kernel
theorem dX6_digest_20 : decode cX6_digest 20 = .ok (.aload_n 0, 1) := by decide +kernel
theorem dX6_digest_21 : decode cX6_digest 21 = .ok (.getfield 32, 3) := by decide +kernel
theorem dX6_digest_24 : decode cX6_digest 24 = .ok (.iastore, 1) := by decide +kernel
theorem dX6_digest_25 : decode cX6_digest 25 = .ok (.dup, 1) := by decide +kernel
theorem dX6_digest_26 : decode cX6_digest 26 = .ok (.iconst 2, 1) := by decide +kernel
theorem dX6_digest_27 : decode cX6_digest 27 = .ok (.aload_n 0, 1) := by decide +kernel
theorem dX6_digest_28 : decode cX6_digest 28 = .ok (.getfield 39, 3) := by decide +kernel
theorem dX6_digest_31 : decode cX6_digest 31 = .ok (.iastore, 1) := by decide +kernel
theorem dX6_digest_32 : decode cX6_digest 32 = .ok (.dup, 1) := by decide +kernel
theorem dX6_digest_33 : decode cX6_digest 33 = .ok (.iconst 3, 1) := by decide +kernel
theorem dX6_digest_34 : decode cX6_digest 34 = .ok (.aload_n 0, 1) := by decide +kernel
theorem dX6_digest_35 : decode cX6_digest 35 = .ok (.iconst 5, 1) := by decide +kernel
theorem dX6_digest_36 : decode cX6_digest 36 = .ok (.invokevirtual 98, 3) := by decide +kernel
theorem dX6_digest_39 : decode cX6_digest 39 = .ok (.iastore, 1) := by decide +kernel
theorem dX6_digest_40 : decode cX6_digest 40 = .ok (.dup, 1) := by decide +kernel
theorem dX6_digest_41 : decode cX6_digest 41 = .ok (.iconst 4, 1) := by decide +kernel
theorem dX6_digest_42 : decode cX6_digest 42 = .ok (.aload_n 0, 1) := by decide +kernel
theorem dX6_digest_43 : decode cX6_digest 43 = .ok (.getfield 22, 3) := by decide +kernel
theorem dX6_digest_46 : decode cX6_digest 46 = .ok (.iconst 1, 1) := by decide +kernel
theorem dX6_digest_47 : decode cX6_digest 47 = .ok (.iaload, 1) := by decide +kernel
theorem dX6_digest_48 : decode cX6_digest 48 = .ok (.iastore, 1) := by decide +kernel
theorem dX6_digest_49 : decode cX6_digest 49 = .ok (.dup, 1) := by decide +kernel
theorem dX6_digest_50 : decode cX6_digest 50 = .ok (.iconst 5, 1) := by decide +kernel
theorem dX6_digest_51 : decode cX6_digest 51 = .ok (.aload_n 0, 1) := by decide +kernel
theorem dX6_digest_52 : decode cX6_digest 52 = .ok (.invokevirtual 101, 3) := by decide +kernel
theorem dX6_digest_55 : decode cX6_digest 55 = .ok (.iastore, 1) := by decide +kernel
theorem dX6_digest_56 : decode cX6_digest 56 = .ok (.dup, 1) := by decide +kernel
theorem dX6_digest_57 : decode cX6_digest 57 = .ok (.bipush 6, 2) := by decide +kernel
theorem dX6_digest_59 : decode cX6_digest 59 = .ok (.aload_n 0, 1) := by decide +kernel
theorem dX6_digest_60 : decode cX6_digest 60 = .ok (.invokevirtual 105, 3) := by decide +kernel
theorem dX6_digest_63 : decode cX6_digest 63 = .ok (.ifCond .eq 7, 3) := by decide +kernel
theorem dX6_digest_66 : decode cX6_digest 66 = .ok (.iconst 1, 1) := by decide +kernel
theorem dX6_digest_67 : decode cX6_digest 67 = .ok (.goto 4, 3) := by decide +kernel
theorem dX6_digest_70 : decode cX6_digest 70 = .ok (.iconst 0, 1) := by decide +kernel
theorem dX6_digest_71 : decode cX6_digest 71 = .ok (.iastore, 1) := by decide +kernel
theorem dX6_digest_72 : decode cX6_digest 72 = .ok (.dup, 1) := by decide +kernel
theorem dX6_digest_73 : decode cX6_digest 73 = .ok (.bipush 7, 2) := by decide +kernel
theorem dX6_digest_75 : decode cX6_digest 75 = .ok (.aload_n 0, 1) := by decide +kernel
theorem dX6_digest_76 : decode cX6_digest 76 = .ok (.invokevirtual 131, 3) := by decide +kernel
theorem dX6_digest_79 : decode cX6_digest 79 = .ok (.iastore, 1) := by decide +kernel
theorem dX6_digest_80 : decode cX6_digest 80 = .ok (.astore_n 1, 1) := by decide +kernel
theorem dX6_digest_81 : decode cX6_digest 81 = .ok (.ldc2_w 137, 3) := by decide +kernel
theorem dX6_digest_84 : decode cX6_digest 84 = .ok (.lstore_n 2, 1) := by decide +kernel
theorem dX6_digest_85 : decode cX6_digest 85 = .ok (.aload_n 1, 1) := by decide +kernel
theorem dX6_digest_86 : decode cX6_digest 86 = .ok (.astore 4, 2) := by decide +kernel
theorem dX6_digest_88 : decode cX6_digest 88 = .ok (.aload 4, 2) := by decide +kernel
theorem dX6_digest_90 : decode cX6_digest 90 = .ok (.arraylength, 1) := by decide +kernel
theorem dX6_digest_91 : decode cX6_digest 91 = .ok (.istore 5, 2) := by decide +kernel
theorem dX6_digest_93 : decode cX6_digest 93 = .ok (.iconst 0, 1) := by decide +kernel
theorem dX6_digest_94 : decode cX6_digest 94 = .ok (.istore 6, 2) := by decide +kernel
theorem dX6_digest_96 : decode cX6_digest 96 = .ok (.iload 6, 2) := by decide +kernel
theorem dX6_digest_98 : decode cX6_digest 98 = .ok (.iload 5, 2) := by decide +kernel
theorem dX6_digest_100 : decode cX6_digest 100 = .ok (.if_icmp .ge 26, 3) := by decide +kernel
theorem dX6_digest_103 : decode cX6_digest 103 = .ok (.aload 4, 2) := by decide +kernel
theorem dX6_digest_105 : decode cX6_digest 105 = .ok (.iload 6, 2) := by decide +kernel
theorem dX6_digest_107 : decode cX6_digest 107 = .ok (.iaload, 1) := by decide +kernel
theorem dX6_digest_108 : decode cX6_digest 108 = .ok (.istore 7, 2) := by decide +kernel
theorem dX6_digest_110 : decode cX6_digest 110 = .ok (.lload_n 2, 1) := by decide +kernel
theorem dX6_digest_111 : decode cX6_digest 111 = .ok (.ldc2_w 139, 3) := by decide +kernel
theorem dX6_digest_114 : decode cX6_digest 114 = .ok (.lmul, 1) := by decide +kernel
theorem dX6_digest_115 : decode cX6_digest 115 = .ok (.iload 7, 2) := by decide +kernel
theorem dX6_digest_117 : decode cX6_digest 117 = .ok (.i2l, 1) := by decide +kernel
theorem dX6_digest_118 : decode cX6_digest 118 = .ok (.ladd, 1) := by decide +kernel
theorem dX6_digest_119 : decode cX6_digest 119 = .ok (.lstore_n 2, 1) := by decide +kernel
theorem dX6_digest_120 : decode cX6_digest 120 = .ok (.iinc 6 1, 3) := by decide +kernel
theorem dX6_digest_123 : decode cX6_digest 123 = .ok (.goto (-27), 3) := by decide +kernel
theorem dX6_digest_126 : decode cX6_digest 126 = .ok (.iconst 0, 1) := by decide +kernel
theorem dX6_digest_127 : decode cX6_digest 127 = .ok (.istore 4, 2) := by decide +kernel
theorem dX6_digest_129 : decode cX6_digest 129 = .ok (.iload 4, 2) := by decide +kernel
theorem dX6_digest_131 : decode cX6_digest 131 = .ok (.aload_n 0, 1) := by decide +kernel
theorem dX6_digest_132 : decode cX6_digest 132 = .ok (.getfield 32, 3) := by decide +kernel
theorem dX6_digest_135 : decode cX6_digest 135 = .ok (.if_icmp .ge 108, 3) := by decide +kernel
theorem dX6_digest_138 : decode cX6_digest 138 = .ok (.lload_n 2, 1) := by decide +kernel
theorem dX6_digest_139 : decode cX6_digest 139 = .ok (.ldc2_w 139, 3) := by decide +kernel
theorem dX6_digest_142 : decode cX6_digest 142 = .ok (.lmul, 1) := by decide +kernel
theorem dX6_digest_143 : decode cX6_digest 143 = .ok (.aload_n 0, 1) := by decide +kernel
theorem dX6_digest_144 : decode cX6_digest 144 = .ok (.iload 4, 2) := by decide +kernel
theorem dX6_digest_146 : decode cX6_digest 146 = .ok (.invokevirtual 109, 3) := by decide +kernel
theorem dX6_digest_149 : decode cX6_digest 149 = .ok (.i2l, 1) := by decide +kernel
theorem dX6_digest_150 : decode cX6_digest 150 = .ok (.ladd, 1) := by decide +kernel
theorem dX6_digest_151 : decode cX6_digest 151 = .ok (.lstore_n 2, 1) := by decide +kernel
theorem dX6_digest_152 : decode cX6_digest 152 = .ok (.iconst 0, 1) := by decide +kernel
theorem dX6_digest_153 : decode cX6_digest 153 = .ok (.istore 5, 2) := by decide +kernel
theorem dX6_digest_155 : decode cX6_digest 155 = .ok (.iload 5, 2) := by decide +kernel
theorem dX6_digest_157 : decode cX6_digest 157 = .ok (.aload_n 0, 1) := by decide +kernel
theorem dX6_digest_158 : decode cX6_digest 158 = .ok (.iload 4, 2) := by decide +kernel
theorem dX6_digest_160 : decode cX6_digest 160 = .ok (.invokevirtual 109, 3) := by decide +kernel
theorem dX6_digest_163 : decode cX6_digest 163 = .ok (.if_icmp .ge 34, 3) := by decide +kernel
theorem dX6_digest_166 : decode cX6_digest 166 = .ok (.lload_n 2, 1) := by decide +kernel
theorem dX6_digest_167 : decode cX6_digest 167 = .ok (.ldc2_w 139, 3) := by decide +kernel
theorem dX6_digest_170 : decode cX6_digest 170 = .ok (.lmul, 1) := by decide +kernel
theorem dX6_digest_171 : decode cX6_digest 171 = .ok (.aload_n 0, 1) := by decide +kernel
theorem dX6_digest_172 : decode cX6_digest 172 = .ok (.getfield 22, 3) := by decide +kernel
theorem dX6_digest_175 : decode cX6_digest 175 = .ok (.sipush 172, 3) := by decide +kernel
theorem dX6_digest_178 : decode cX6_digest 178 = .ok (.bipush 8, 2) := by decide +kernel
theorem dX6_digest_180 : decode cX6_digest 180 = .ok (.iload 4, 2) := by decide +kernel
theorem dX6_digest_182 : decode cX6_digest 182 = .ok (.imul, 1) := by decide +kernel
theorem dX6_digest_183 : decode cX6_digest 183 = .ok (.iadd, 1) := by decide +kernel
theorem dX6_digest_184 : decode cX6_digest 184 = .ok (.iload 5, 2) := by decide +kernel
theorem dX6_digest_186 : decode cX6_digest 186 = .ok (.iadd, 1) := by decide +kernel
theorem dX6_digest_187 : decode cX6_digest 187 = .ok (.iaload, 1) := by decide +kernel
theorem dX6_digest_188 : decode cX6_digest 188 = .ok (.i2l, 1) := by decide +kernel
theorem dX6_digest_189 : decode cX6_digest 189 = .ok (.ladd, 1) := by decide +kernel
theorem dX6_digest_190 : decode cX6_digest 190 = .ok (.lstore_n 2, 1) := by decide +kernel
theorem dX6_digest_191 : decode cX6_digest 191 = .ok (.iinc 5 1, 3) := by decide +kernel
theorem dX6_digest_194 : decode cX6_digest 194 = .ok (.goto (-39), 3) := by decide +kernel
theorem dX6_digest_197 : decode cX6_digest 197 = .ok (.lload_n 2, 1) := by decide +kernel
theorem dX6_digest_198 : decode cX6_digest 198 = .ok (.ldc2_w 139, 3) := by decide +kernel
theorem dX6_digest_201 : decode cX6_digest 201 = .ok (.lmul, 1) := by decide +kernel
theorem dX6_digest_202 : decode cX6_digest 202 = .ok (.aload_n 0, 1) := by decide +kernel
theorem dX6_digest_203 : decode cX6_digest 203 = .ok (.iload 4, 2) := by decide +kernel
theorem dX6_digest_205 : decode cX6_digest 205 = .ok (.iconst 1, 1) := by decide +kernel
theorem dX6_digest_206 : decode cX6_digest 206 = .ok (.invokevirtual 112, 3) := by decide +kernel
theorem dX6_digest_209 : decode cX6_digest 209 = .ok (.i2l, 1) := by decide +kernel
theorem dX6_digest_210 : decode cX6_digest 210 = .ok (.ladd, 1) := by decide +kernel
theorem dX6_digest_211 : decode cX6_digest 211 = .ok (.ldc2_w 139, 3) := by decide +kernel
theorem dX6_digest_214 : decode cX6_digest 214 = .ok (.lmul, 1) := by decide +kernel
theorem dX6_digest_215 : decode cX6_digest 215 = .ok (.aload_n 0, 1) := by decide +kernel
theorem dX6_digest_216 : decode cX6_digest 216 = .ok (.iload 4, 2) := by decide +kernel
theorem dX6_digest_218 : decode cX6_digest 218 = .ok (.iconst 2, 1) := by decide +kernel
theorem dX6_digest_219 : decode cX6_digest 219 = .ok (.invokevirtual 112, 3) := by decide +kernel
theorem dX6_digest_222 : decode cX6_digest 222 = .ok (.i2l, 1) := by decide +kernel
theorem dX6_digest_223 : decode cX6_digest 223 = .ok (.ladd, 1) := by decide +kernel
theorem dX6_digest_224 : decode cX6_digest 224 = .ok (.ldc2_w 139, 3) := by decide +kernel
theorem dX6_digest_227 : decode cX6_digest 227 = .ok (.lmul, 1) := by decide +kernel
theorem dX6_digest_228 : decode cX6_digest 228 = .ok (.aload_n 0, 1) := by decide +kernel
theorem dX6_digest_229 : decode cX6_digest 229 = .ok (.iload 4, 2) := by decide +kernel
theorem dX6_digest_231 : decode cX6_digest 231 = .ok (.invokevirtual 134, 3) := by decide +kernel
theorem dX6_digest_234 : decode cX6_digest 234 = .ok (.i2l, 1) := by decide +kernel
theorem dX6_digest_235 : decode cX6_digest 235 = .ok (.ladd, 1) := by decide +kernel
theorem dX6_digest_236 : decode cX6_digest 236 = .ok (.lstore_n 2, 1) := by decide +kernel
theorem dX6_digest_237 : decode cX6_digest 237 = .ok (.iinc 4 1, 3) := by decide +kernel
theorem dX6_digest_240 : decode cX6_digest 240 = .ok (.goto (-111), 3) := by decide +kernel
theorem dX6_digest_243 : decode cX6_digest 243 = .ok (.iconst 0, 1) := by decide +kernel
theorem dX6_digest_244 : decode cX6_digest 244 = .ok (.istore 4, 2) := by decide +kernel
theorem dX6_digest_246 : decode cX6_digest 246 = .ok (.iload 4, 2) := by decide +kernel
theorem dX6_digest_248 : decode cX6_digest 248 = .ok (.aload_n 0, 1) := by decide +kernel
theorem dX6_digest_249 : decode cX6_digest 249 = .ok (.getfield 39, 3) := by decide +kernel
theorem dX6_digest_252 : decode cX6_digest 252 = .ok (.if_icmp .ge 141, 3) := by decide +kernel
theorem dX6_digest_255 : decode cX6_digest 255 = .ok (.bipush 7, 2) := by decide +kernel
theorem dX6_digest_257 : decode cX6_digest 257 = .ok (.newarray .int, 2) := by decide +kernel
theorem dX6_digest_259 : decode cX6_digest 259 = .ok (.dup, 1) := by decide +kernel
theorem dX6_digest_260 : decode cX6_digest 260 = .ok (.iconst 0, 1) := by decide +kernel
theorem dX6_digest_261 : decode cX6_digest 261 = .ok (.aload_n 0, 1) := by decide +kernel
theorem dX6_digest_262 : decode cX6_digest 262 = .ok (.getfield 22, 3) := by decide +kernel
theorem dX6_digest_265 : decode cX6_digest 265 = .ok (.bipush 12, 2) := by decide +kernel
theorem dX6_digest_267 : decode cX6_digest 267 = .ok (.iload 4, 2) := by decide +kernel
theorem dX6_digest_269 : decode cX6_digest 269 = .ok (.iadd, 1) := by decide +kernel
theorem dX6_digest_270 : decode cX6_digest 270 = .ok (.iaload, 1) := by decide +kernel
theorem dX6_digest_271 : decode cX6_digest 271 = .ok (.iastore, 1) := by decide +kernel
theorem dX6_digest_272 : decode cX6_digest 272 = .ok (.dup, 1) := by decide +kernel
theorem dX6_digest_273 : decode cX6_digest 273 = .ok (.iconst 1, 1) := by decide +kernel
theorem dX6_digest_274 : decode cX6_digest 274 = .ok (.aload_n 0, 1) := by decide +kernel
theorem dX6_digest_275 : decode cX6_digest 275 = .ok (.getfield 22, 3) := by decide +kernel
theorem dX6_digest_278 : decode cX6_digest 278 = .ok (.bipush 20, 2) := by decide +kernel
theorem dX6_digest_280 : decode cX6_digest 280 = .ok (.iload 4, 2) := by decide +kernel
theorem dX6_digest_282 : decode cX6_digest 282 = .ok (.iadd, 1) := by decide +kernel
theorem dX6_digest_283 : decode cX6_digest 283 = .ok (.iaload, 1) := by decide +kernel
theorem dX6_digest_284 : decode cX6_digest 284 = .ok (.iastore, 1) := by decide +kernel
theorem dX6_digest_285 : decode cX6_digest 285 = .ok (.dup, 1) := by decide +kernel
theorem dX6_digest_286 : decode cX6_digest 286 = .ok (.iconst 2, 1) := by decide +kernel
theorem dX6_digest_287 : decode cX6_digest 287 = .ok (.aload_n 0, 1) := by decide +kernel
theorem dX6_digest_288 : decode cX6_digest 288 = .ok (.getfield 22, 3) := by decide +kernel
theorem dX6_digest_291 : decode cX6_digest 291 = .ok (.bipush 28, 2) := by decide +kernel
theorem dX6_digest_293 : decode cX6_digest 293 = .ok (.iload 4, 2) := by decide +kernel
theorem dX6_digest_295 : decode cX6_digest 295 = .ok (.iadd, 1) := by decide +kernel
theorem dX6_digest_296 : decode cX6_digest 296 = .ok (.iaload, 1) := by decide +kernel
theorem dX6_digest_297 : decode cX6_digest 297 = .ok (.iastore, 1) := by decide +kernel
theorem dX6_digest_298 : decode cX6_digest 298 = .ok (.dup, 1) := by decide +kernel
theorem dX6_digest_299 : decode cX6_digest 299 = .ok (.iconst 3, 1) := by decide +kernel
theorem dX6_digest_300 : decode cX6_digest 300 = .ok (.aload_n 0, 1) := by decide +kernel
theorem dX6_digest_301 : decode cX6_digest 301 = .ok (.getfield 22, 3) := by decide +kernel
theorem dX6_digest_304 : decode cX6_digest 304 = .ok (.bipush 36, 2) := by decide +kernel
theorem dX6_digest_306 : decode cX6_digest 306 = .ok (.iload 4, 2) := by decide +kernel
theorem dX6_digest_308 : decode cX6_digest 308 = .ok (.iadd, 1) := by decide +kernel
theorem dX6_digest_309 : decode cX6_digest 309 = .ok (.iaload, 1) := by decide +kernel
theorem dX6_digest_310 : decode cX6_digest 310 = .ok (.iastore, 1) := by decide +kernel
theorem dX6_digest_311 : decode cX6_digest 311 = .ok (.dup, 1) := by decide +kernel
theorem dX6_digest_312 : decode cX6_digest 312 = .ok (.iconst 4, 1) := by decide +kernel
theorem dX6_digest_313 : decode cX6_digest 313 = .ok (.aload_n 0, 1) := by decide +kernel
theorem dX6_digest_314 : decode cX6_digest 314 = .ok (.getfield 22, 3) := by decide +kernel
theorem dX6_digest_317 : decode cX6_digest 317 = .ok (.bipush 44, 2) := by decide +kernel
theorem dX6_digest_319 : decode cX6_digest 319 = .ok (.iload 4, 2) := by decide +kernel
theorem dX6_digest_321 : decode cX6_digest 321 = .ok (.iadd, 1) := by decide +kernel
theorem dX6_digest_322 : decode cX6_digest 322 = .ok (.iaload, 1) := by decide +kernel
theorem dX6_digest_323 : decode cX6_digest 323 = .ok (.iastore, 1) := by decide +kernel
theorem dX6_digest_324 : decode cX6_digest 324 = .ok (.dup, 1) := by decide +kernel
theorem dX6_digest_325 : decode cX6_digest 325 = .ok (.iconst 5, 1) := by decide +kernel
theorem dX6_digest_326 : decode cX6_digest 326 = .ok (.aload_n 0, 1) := by decide +kernel
theorem dX6_digest_327 : decode cX6_digest 327 = .ok (.iload 4, 2) := by decide +kernel
theorem dX6_digest_329 : decode cX6_digest 329 = .ok (.invokevirtual 119, 3) := by decide +kernel
theorem dX6_digest_332 : decode cX6_digest 332 = .ok (.iastore, 1) := by decide +kernel
theorem dX6_digest_333 : decode cX6_digest 333 = .ok (.dup, 1) := by decide +kernel
theorem dX6_digest_334 : decode cX6_digest 334 = .ok (.bipush 6, 2) := by decide +kernel
theorem dX6_digest_336 : decode cX6_digest 336 = .ok (.aload_n 0, 1) := by decide +kernel
theorem dX6_digest_337 : decode cX6_digest 337 = .ok (.iload 4, 2) := by decide +kernel
theorem dX6_digest_339 : decode cX6_digest 339 = .ok (.invokevirtual 128, 3) := by decide +kernel
theorem dX6_digest_342 : decode cX6_digest 342 = .ok (.iastore, 1) := by decide +kernel
theorem dX6_digest_343 : decode cX6_digest 343 = .ok (.astore 5, 2) := by decide +kernel
theorem dX6_digest_345 : decode cX6_digest 345 = .ok (.aload 5, 2) := by decide +kernel
theorem dX6_digest_347 : decode cX6_digest 347 = .ok (.astore 6, 2) := by decide +kernel
theorem dX6_digest_349 : decode cX6_digest 349 = .ok (.aload 6, 2) := by decide +kernel
theorem dX6_digest_351 : decode cX6_digest 351 = .ok (.arraylength, 1) := by decide +kernel
theorem dX6_digest_352 : decode cX6_digest 352 = .ok (.istore 7, 2) := by decide +kernel
theorem dX6_digest_354 : decode cX6_digest 354 = .ok (.iconst 0, 1) := by decide +kernel
theorem dX6_digest_355 : decode cX6_digest 355 = .ok (.istore 8, 2) := by decide +kernel
theorem dX6_digest_357 : decode cX6_digest 357 = .ok (.iload 8, 2) := by decide +kernel
theorem dX6_digest_359 : decode cX6_digest 359 = .ok (.iload 7, 2) := by decide +kernel
theorem dX6_digest_361 : decode cX6_digest 361 = .ok (.if_icmp .ge 26, 3) := by decide +kernel
theorem dX6_digest_364 : decode cX6_digest 364 = .ok (.aload 6, 2) := by decide +kernel
theorem dX6_digest_366 : decode cX6_digest 366 = .ok (.iload 8, 2) := by decide +kernel
theorem dX6_digest_368 : decode cX6_digest 368 = .ok (.iaload, 1) := by decide +kernel
theorem dX6_digest_369 : decode cX6_digest 369 = .ok (.istore 9, 2) := by decide +kernel
theorem dX6_digest_371 : decode cX6_digest 371 = .ok (.lload_n 2, 1) := by decide +kernel
theorem dX6_digest_372 : decode cX6_digest 372 = .ok (.ldc2_w 139, 3) := by decide +kernel
theorem dX6_digest_375 : decode cX6_digest 375 = .ok (.lmul, 1) := by decide +kernel
theorem dX6_digest_376 : decode cX6_digest 376 = .ok (.iload 9, 2) := by decide +kernel
theorem dX6_digest_378 : decode cX6_digest 378 = .ok (.i2l, 1) := by decide +kernel
theorem dX6_digest_379 : decode cX6_digest 379 = .ok (.ladd, 1) := by decide +kernel
theorem dX6_digest_380 : decode cX6_digest 380 = .ok (.lstore_n 2, 1) := by decide +kernel
theorem dX6_digest_381 : decode cX6_digest 381 = .ok (.iinc 8 1, 3) := by decide +kernel
theorem dX6_digest_384 : decode cX6_digest 384 = .ok (.goto (-27), 3) := by decide +kernel
theorem dX6_digest_387 : decode cX6_digest 387 = .ok (.iinc 4 1, 3) := by decide +kernel
theorem dX6_digest_390 : decode cX6_digest 390 = .ok (.goto (-144), 3) := by decide +kernel
theorem dX6_digest_393 : decode cX6_digest 393 = .ok (.lload_n 2, 1) := by decide +kernel
theorem dX6_digest_394 : decode cX6_digest 394 = .ok (.lreturn, 1) := by decide +kernel
theorem dL_addChannel_0 : decode cL_addChannel 0 = .ok (.aload_n 2, 1) := by decide +kernel
theorem dL_addChannel_1 : decode cL_addChannel 1 = .ok (.iconst 0, 1) := by decide +kernel
theorem dL_addChannel_2 : decode cL_addChannel 2 = .ok (.aload_n 0, 1) := by decide +kernel
theorem dL_addChannel_3 : decode cL_addChannel 3 = .ok (.iload_n 1, 1) := by decide +kernel
theorem dL_addChannel_4 : decode cL_addChannel 4 = .ok (.invokevirtual 7, 3) := by decide +kernel
theorem dL_addChannel_7 : decode cL_addChannel 7 = .ok (.i2l, 1) := by decide +kernel
theorem dL_addChannel_8 : decode cL_addChannel 8 = .ok (.lastore, 1) := by decide +kernel
theorem dL_addChannel_9 : decode cL_addChannel 9 = .ok (.goto 9, 3) := by decide +kernel
theorem dL_addChannel_12 : decode cL_addChannel 12 = .ok (.astore_n 3, 1) := by decide +kernel
theorem dL_addChannel_13 : decode cL_addChannel 13 = .ok (.iconst 1, 1) := by decide +kernel
theorem dL_addChannel_14 : decode cL_addChannel 14 = .ok (.ireturn, 1) := by decide +kernel
theorem dL_addChannel_15 : decode cL_addChannel 15 = .ok (.astore_n 3, 1) := by decide +kernel
theorem dL_addChannel_16 : decode cL_addChannel 16 = .ok (.iconst 2, 1) := by decide +kernel
theorem dL_addChannel_17 : decode cL_addChannel 17 = .ok (.ireturn, 1) := by decide +kernel
theorem dL_addChannel_18 : decode cL_addChannel 18 = .ok (.iconst 0, 1) := by decide +kernel
theorem dL_addChannel_19 : decode cL_addChannel 19 = .ok (.ireturn, 1) := by decide +kernel
theorem dL_addFiber_0 : decode cL_addFiber 0 = .ok (.aload_n 1, 1) := by decide +kernel
theorem dL_addFiber_1 : decode cL_addFiber 1 = .ok (.iconst 0, 1) := by decide +kernel
theorem dL_addFiber_2 : decode cL_addFiber 2 = .ok (.aload_n 0, 1) := by decide +kernel
theorem dL_addFiber_3 : decode cL_addFiber 3 = .ok (.invokevirtual 17, 3) := by decide +kernel
theorem dL_addFiber_6 : decode cL_addFiber 6 = .ok (.i2l, 1) := by decide +kernel
theorem dL_addFiber_7 : decode cL_addFiber 7 = .ok (.lastore, 1) := by decide +kernel
theorem dL_addFiber_8 : decode cL_addFiber 8 = .ok (.goto 6, 3) := by decide +kernel
theorem dL_addFiber_11 : decode cL_addFiber 11 = .ok (.astore_n 2, 1) := by decide +kernel
theorem dL_addFiber_12 : decode cL_addFiber 12 = .ok (.iconst 1, 1) := by decide +kernel
theorem dL_addFiber_13 : decode cL_addFiber 13 = .ok (.ireturn, 1) := by decide +kernel
theorem dL_addFiber_14 : decode cL_addFiber 14 = .ok (.iconst 0, 1) := by decide +kernel
theorem dL_addFiber_15 : decode cL_addFiber 15 = .ok (.ireturn, 1) := by decide +kernel
theorem dL_addStep_0 : decode cL_addStep 0 = .ok (.aload 5, 2) := by decide +kernel
theorem dL_addStep_2 : decode cL_addStep 2 = .ok (.iconst 0, 1) := by decide +kernel
theorem dL_addStep_3 : decode cL_addStep 3 = .ok (.aload_n 0, 1) := by decide +kernel
theorem dL_addStep_4 : decode cL_addStep 4 = .ok (.iload_n 1, 1) := by decide +kernel
theorem dL_addStep_5 : decode cL_addStep 5 = .ok (.iload_n 2, 1) := by decide +kernel
theorem dL_addStep_6 : decode cL_addStep 6 = .ok (.iload_n 3, 1) := by decide +kernel
theorem dL_addStep_7 : decode cL_addStep 7 = .ok (.iload 4, 2) := by decide +kernel
theorem dL_addStep_9 : decode cL_addStep 9 = .ok (.invokevirtual 21, 3) := by decide +kernel
theorem dL_addStep_12 : decode cL_addStep 12 = .ok (.i2l, 1) := by decide +kernel
theorem dL_addStep_13 : decode cL_addStep 13 = .ok (.lastore, 1) := by decide +kernel
theorem dL_addStep_14 : decode cL_addStep 14 = .ok (.goto 15, 3) := by decide +kernel
theorem dL_addStep_17 : decode cL_addStep 17 = .ok (.astore 6, 2) := by decide +kernel
theorem dL_addStep_19 : decode cL_addStep 19 = .ok (.iconst 1, 1) := by decide +kernel
theorem dL_addStep_20 : decode cL_addStep 20 = .ok (.ireturn, 1) := by decide +kernel
theorem dL_addStep_21 : decode cL_addStep 21 = .ok (.astore 6, 2) := by decide +kernel
theorem dL_addStep_23 : decode cL_addStep 23 = .ok (.iconst 2, 1) := by decide +kernel
theorem dL_addStep_24 : decode cL_addStep 24 = .ok (.ireturn, 1) := by decide +kernel
theorem dL_addStep_25 : decode cL_addStep 25 = .ok (.astore 6, 2) := by decide +kernel
theorem dL_addStep_27 : decode cL_addStep 27 = .ok (.iconst 3, 1) := by decide +kernel
theorem dL_addStep_28 : decode cL_addStep 28 = .ok (.ireturn, 1) := by decide +kernel
theorem dL_addStep_29 : decode cL_addStep 29 = .ok (.iconst 0, 1) := by decide +kernel
theorem dL_addStep_30 : decode cL_addStep 30 = .ok (.ireturn, 1) := by decide +kernel
theorem dL_pour_0 : decode cL_pour 0 = .ok (.aload_n 3, 1) := by decide +kernel
theorem dL_pour_1 : decode cL_pour 1 = .ok (.iconst 0, 1) := by decide +kernel
theorem dL_pour_2 : decode cL_pour 2 = .ok (.aload_n 0, 1) := by decide +kernel
theorem dL_pour_3 : decode cL_pour 3 = .ok (.iload_n 1, 1) := by decide +kernel
theorem dL_pour_4 : decode cL_pour 4 = .ok (.iload_n 2, 1) := by decide +kernel
theorem dL_pour_5 : decode cL_pour 5 = .ok (.invokevirtual 27, 3) := by decide +kernel
theorem dL_pour_8 : decode cL_pour 8 = .ok (.i2l, 1) := by decide +kernel
theorem dL_pour_9 : decode cL_pour 9 = .ok (.lastore, 1) := by decide +kernel
theorem dL_pour_10 : decode cL_pour 10 = .ok (.goto 15, 3) := by decide +kernel
theorem dL_pour_13 : decode cL_pour 13 = .ok (.astore 4, 2) := by decide +kernel
theorem dL_pour_15 : decode cL_pour 15 = .ok (.iconst 1, 1) := by decide +kernel
theorem dL_pour_16 : decode cL_pour 16 = .ok (.ireturn, 1) := by decide +kernel
theorem dL_pour_17 : decode cL_pour 17 = .ok (.astore 4, 2) := by decide +kernel
theorem dL_pour_19 : decode cL_pour 19 = .ok (.iconst 2, 1) := by decide +kernel
theorem dL_pour_20 : decode cL_pour 20 = .ok (.ireturn, 1) := by decide +kernel
theorem dL_pour_21 : decode cL_pour 21 = .ok (.astore 4, 2) := by decide +kernel
theorem dL_pour_23 : decode cL_pour 23 = .ok (.iconst 3, 1) := by decide +kernel
theorem dL_pour_24 : decode cL_pour 24 = .ok (.ireturn, 1) := by decide +kernel
theorem dL_pour_25 : decode cL_pour 25 = .ok (.iconst 0, 1) := by decide +kernel
theorem dL_pour_26 : decode cL_pour 26 = .ok (.ireturn, 1) := by decide +kernel
theorem dL_run_0 : decode cL_run 0 = .ok (.aload_n 2, 1) := by decide +kernel
theorem dL_run_1 : decode cL_run 1 = .ok (.iconst 0, 1) := by decide +kernel
theorem dL_run_2 : decode cL_run 2 = .ok (.aload_n 0, 1) := by decide +kernel
theorem dL_run_3 : decode cL_run 3 = .ok (.iload_n 1, 1) := by decide +kernel
theorem dL_run_4 : decode cL_run 4 = .ok (.invokevirtual 31, 3) := by decide +kernel
theorem dL_run_7 : decode cL_run 7 = .ok (.i2l, 1) := by decide +kernel
theorem dL_run_8 : decode cL_run 8 = .ok (.lastore, 1) := by decide +kernel
theorem dL_run_9 : decode cL_run 9 = .ok (.goto 6, 3) := by decide +kernel
theorem dL_run_12 : decode cL_run 12 = .ok (.astore_n 3, 1) := by decide +kernel
theorem dL_run_13 : decode cL_run 13 = .ok (.iconst 1, 1) := by decide +kernel
theorem dL_run_14 : decode cL_run 14 = .ok (.ireturn, 1) := by decide +kernel
theorem dL_run_15 : decode cL_run 15 = .ok (.iconst 0, 1) := by decide +kernel
theorem dL_run_16 : decode cL_run 16 = .ok (.ireturn, 1) := by decide +kernel
theorem dL_held_0 : decode cL_held 0 = .ok (.aload_n 2, 1) := by decide +kernel
theorem dL_held_1 : decode cL_held 1 = .ok (.iconst 0, 1) := by decide +kernel
theorem dL_held_2 : decode cL_held 2 = .ok (.aload_n 0, 1) := by decide +kernel
theorem dL_held_3 : decode cL_held 3 = .ok (.iload_n 1, 1) := by decide +kernel
theorem dL_held_4 : decode cL_held 4 = .ok (.invokevirtual 34, 3) := by decide +kernel
theorem dL_held_7 : decode cL_held 7 = .ok (.i2l, 1) := by decide +kernel
theorem dL_held_8 : decode cL_held 8 = .ok (.lastore, 1) := by decide +kernel
theorem dL_held_9 : decode cL_held 9 = .ok (.goto 6, 3) := by decide +kernel
theorem dL_held_12 : decode cL_held 12 = .ok (.astore_n 3, 1) := by decide +kernel
theorem dL_held_13 : decode cL_held 13 = .ok (.iconst 1, 1) := by decide +kernel
theorem dL_held_14 : decode cL_held 14 = .ok (.ireturn, 1) := by decide +kernel
theorem dL_held_15 : decode cL_held 15 = .ok (.iconst 0, 1) := by decide +kernel
theorem dL_held_16 : decode cL_held 16 = .ok (.ireturn, 1) := by decide +kernel
theorem dL_valueAt_0 : decode cL_valueAt 0 = .ok (.aload_n 3, 1) := by decide +kernel
theorem dL_valueAt_1 : decode cL_valueAt 1 = .ok (.iconst 0, 1) := by decide +kernel
theorem dL_valueAt_2 : decode cL_valueAt 2 = .ok (.aload_n 0, 1) := by decide +kernel
theorem dL_valueAt_3 : decode cL_valueAt 3 = .ok (.iload_n 1, 1) := by decide +kernel
theorem dL_valueAt_4 : decode cL_valueAt 4 = .ok (.iload_n 2, 1) := by decide +kernel
theorem dL_valueAt_5 : decode cL_valueAt 5 = .ok (.invokevirtual 37, 3) := by decide +kernel
theorem dL_valueAt_8 : decode cL_valueAt 8 = .ok (.i2l, 1) := by decide +kernel
theorem dL_valueAt_9 : decode cL_valueAt 9 = .ok (.lastore, 1) := by decide +kernel
theorem dL_valueAt_10 : decode cL_valueAt 10 = .ok (.goto 7, 3) := by decide +kernel
theorem dL_valueAt_13 : decode cL_valueAt 13 = .ok (.astore 4, 2) := by decide +kernel
theorem dL_valueAt_15 : decode cL_valueAt 15 = .ok (.iconst 1, 1) := by decide +kernel
theorem dL_valueAt_16 : decode cL_valueAt 16 = .ok (.ireturn, 1) := by decide +kernel
theorem dL_valueAt_17 : decode cL_valueAt 17 = .ok (.iconst 0, 1) := by decide +kernel
theorem dL_valueAt_18 : decode cL_valueAt 18 = .ok (.ireturn, 1) := by decide +kernel
theorem dL_sendersAt_0 : decode cL_sendersAt 0 = .ok (.aload_n 2, 1) := by decide +kernel
theorem dL_sendersAt_1 : decode cL_sendersAt 1 = .ok (.iconst 0, 1) := by decide +kernel
theorem dL_sendersAt_2 : decode cL_sendersAt 2 = .ok (.aload_n 0, 1) := by decide +kernel
theorem dL_sendersAt_3 : decode cL_sendersAt 3 = .ok (.iload_n 1, 1) := by decide +kernel
theorem dL_sendersAt_4 : decode cL_sendersAt 4 = .ok (.invokevirtual 40, 3) := by decide +kernel
theorem dL_sendersAt_7 : decode cL_sendersAt 7 = .ok (.i2l, 1) := by decide +kernel
theorem dL_sendersAt_8 : decode cL_sendersAt 8 = .ok (.lastore, 1) := by decide +kernel
theorem dL_sendersAt_9 : decode cL_sendersAt 9 = .ok (.goto 6, 3) := by decide +kernel
theorem dL_sendersAt_12 : decode cL_sendersAt 12 = .ok (.astore_n 3, 1) := by decide +kernel
theorem dL_sendersAt_13 : decode cL_sendersAt 13 = .ok (.iconst 1, 1) := by decide +kernel
theorem dL_sendersAt_14 : decode cL_sendersAt 14 = .ok (.ireturn, 1) := by decide +kernel
theorem dL_sendersAt_15 : decode cL_sendersAt 15 = .ok (.iconst 0, 1) := by decide +kernel
theorem dL_sendersAt_16 : decode cL_sendersAt 16 = .ok (.ireturn, 1) := by decide +kernel
theorem dL_takersAt_0 : decode cL_takersAt 0 = .ok (.aload_n 2, 1) := by decide +kernel
theorem dL_takersAt_1 : decode cL_takersAt 1 = .ok (.iconst 0, 1) := by decide +kernel
theorem dL_takersAt_2 : decode cL_takersAt 2 = .ok (.aload_n 0, 1) := by decide +kernel
theorem dL_takersAt_3 : decode cL_takersAt 3 = .ok (.iload_n 1, 1) := by decide +kernel
theorem dL_takersAt_4 : decode cL_takersAt 4 = .ok (.invokevirtual 43, 3) := by decide +kernel
theorem dL_takersAt_7 : decode cL_takersAt 7 = .ok (.i2l, 1) := by decide +kernel
theorem dL_takersAt_8 : decode cL_takersAt 8 = .ok (.lastore, 1) := by decide +kernel
theorem dL_takersAt_9 : decode cL_takersAt 9 = .ok (.goto 6, 3) := by decide +kernel
theorem dL_takersAt_12 : decode cL_takersAt 12 = .ok (.astore_n 3, 1) := by decide +kernel
theorem dL_takersAt_13 : decode cL_takersAt 13 = .ok (.iconst 1, 1) := by decide +kernel
theorem dL_takersAt_14 : decode cL_takersAt 14 = .ok (.ireturn, 1) := by decide +kernel
theorem dL_takersAt_15 : decode cL_takersAt 15 = .ok (.iconst 0, 1) := by decide +kernel
theorem dL_takersAt_16 : decode cL_takersAt 16 = .ok (.ireturn, 1) := by decide +kernel
theorem dL_stateOf_0 : decode cL_stateOf 0 = .ok (.aload_n 2, 1) := by decide +kernel
theorem dL_stateOf_1 : decode cL_stateOf 1 = .ok (.iconst 0, 1) := by decide +kernel
theorem dL_stateOf_2 : decode cL_stateOf 2 = .ok (.aload_n 0, 1) := by decide +kernel
theorem dL_stateOf_3 : decode cL_stateOf 3 = .ok (.iload_n 1, 1) := by decide +kernel
theorem dL_stateOf_4 : decode cL_stateOf 4 = .ok (.invokevirtual 46, 3) := by decide +kernel
theorem dL_stateOf_7 : decode cL_stateOf 7 = .ok (.i2l, 1) := by decide +kernel
theorem dL_stateOf_8 : decode cL_stateOf 8 = .ok (.lastore, 1) := by decide +kernel
theorem dL_stateOf_9 : decode cL_stateOf 9 = .ok (.goto 6, 3) := by decide +kernel
theorem dL_stateOf_12 : decode cL_stateOf 12 = .ok (.astore_n 3, 1) := by decide +kernel
theorem dL_stateOf_13 : decode cL_stateOf 13 = .ok (.iconst 1, 1) := by decide +kernel
theorem dL_stateOf_14 : decode cL_stateOf 14 = .ok (.ireturn, 1) := by decide +kernel
theorem dL_stateOf_15 : decode cL_stateOf 15 = .ok (.iconst 0, 1) := by decide +kernel
theorem dL_stateOf_16 : decode cL_stateOf 16 = .ok (.ireturn, 1) := by decide +kernel
theorem dL_placeOf_0 : decode cL_placeOf 0 = .ok (.aload_n 2, 1) := by decide +kernel
theorem dL_placeOf_1 : decode cL_placeOf 1 = .ok (.iconst 0, 1) := by decide +kernel
theorem dL_placeOf_2 : decode cL_placeOf 2 = .ok (.aload_n 0, 1) := by decide +kernel
theorem dL_placeOf_3 : decode cL_placeOf 3 = .ok (.iload_n 1, 1) := by decide +kernel
theorem dL_placeOf_4 : decode cL_placeOf 4 = .ok (.invokevirtual 49, 3) := by decide +kernel
theorem dL_placeOf_7 : decode cL_placeOf 7 = .ok (.i2l, 1) := by decide +kernel
theorem dL_placeOf_8 : decode cL_placeOf 8 = .ok (.lastore, 1) := by decide +kernel
theorem dL_placeOf_9 : decode cL_placeOf 9 = .ok (.goto 6, 3) := by decide +kernel
theorem dL_placeOf_12 : decode cL_placeOf 12 = .ok (.astore_n 3, 1) := by decide +kernel
theorem dL_placeOf_13 : decode cL_placeOf 13 = .ok (.iconst 1, 1) := by decide +kernel
theorem dL_placeOf_14 : decode cL_placeOf 14 = .ok (.ireturn, 1) := by decide +kernel
theorem dL_placeOf_15 : decode cL_placeOf 15 = .ok (.iconst 0, 1) := by decide +kernel
theorem dL_placeOf_16 : decode cL_placeOf 16 = .ok (.ireturn, 1) := by decide +kernel
theorem dL_sumOf_0 : decode cL_sumOf 0 = .ok (.aload_n 2, 1) := by decide +kernel
theorem dL_sumOf_1 : decode cL_sumOf 1 = .ok (.iconst 0, 1) := by decide +kernel
theorem dL_sumOf_2 : decode cL_sumOf 2 = .ok (.aload_n 0, 1) := by decide +kernel
theorem dL_sumOf_3 : decode cL_sumOf 3 = .ok (.iload_n 1, 1) := by decide +kernel
theorem dL_sumOf_4 : decode cL_sumOf 4 = .ok (.invokevirtual 52, 3) := by decide +kernel
theorem dL_sumOf_7 : decode cL_sumOf 7 = .ok (.i2l, 1) := by decide +kernel
theorem dL_sumOf_8 : decode cL_sumOf 8 = .ok (.lastore, 1) := by decide +kernel
theorem dL_sumOf_9 : decode cL_sumOf 9 = .ok (.goto 6, 3) := by decide +kernel
theorem dL_sumOf_12 : decode cL_sumOf 12 = .ok (.astore_n 3, 1) := by decide +kernel
theorem dL_sumOf_13 : decode cL_sumOf 13 = .ok (.iconst 1, 1) := by decide +kernel
theorem dL_sumOf_14 : decode cL_sumOf 14 = .ok (.ireturn, 1) := by decide +kernel
theorem dL_sumOf_15 : decode cL_sumOf 15 = .ok (.iconst 0, 1) := by decide +kernel
theorem dL_sumOf_16 : decode cL_sumOf 16 = .ok (.ireturn, 1) := by decide +kernel
theorem dL_stepsDone_0 : decode cL_stepsDone 0 = .ok (.aload_n 2, 1) := by decide +kernel
theorem dL_stepsDone_1 : decode cL_stepsDone 1 = .ok (.iconst 0, 1) := by decide +kernel
theorem dL_stepsDone_2 : decode cL_stepsDone 2 = .ok (.aload_n 0, 1) := by decide +kernel
theorem dL_stepsDone_3 : decode cL_stepsDone 3 = .ok (.iload_n 1, 1) := by decide +kernel
theorem dL_stepsDone_4 : decode cL_stepsDone 4 = .ok (.invokevirtual 55, 3) := by decide +kernel
theorem dL_stepsDone_7 : decode cL_stepsDone 7 = .ok (.i2l, 1) := by decide +kernel
theorem dL_stepsDone_8 : decode cL_stepsDone 8 = .ok (.lastore, 1) := by decide +kernel
theorem dL_stepsDone_9 : decode cL_stepsDone 9 = .ok (.goto 6, 3) := by decide +kernel
theorem dL_stepsDone_12 : decode cL_stepsDone 12 = .ok (.astore_n 3, 1) := by decide +kernel
theorem dL_stepsDone_13 : decode cL_stepsDone 13 = .ok (.iconst 1, 1) := by decide +kernel
theorem dL_stepsDone_14 : decode cL_stepsDone 14 = .ok (.ireturn, 1) := by decide +kernel
theorem dL_stepsDone_15 : decode cL_stepsDone 15 = .ok (.iconst 0, 1) := by decide +kernel
theorem dL_stepsDone_16 : decode cL_stepsDone 16 = .ok (.ireturn, 1) := by decide +kernel
theorem dL_turnsOf_0 : decode cL_turnsOf 0 = .ok (.aload_n 2, 1) := by decide +kernel
theorem dL_turnsOf_1 : decode cL_turnsOf 1 = .ok (.iconst 0, 1) := by decide +kernel
theorem dL_turnsOf_2 : decode cL_turnsOf 2 = .ok (.aload_n 0, 1) := by decide +kernel
theorem dL_turnsOf_3 : decode cL_turnsOf 3 = .ok (.iload_n 1, 1) := by decide +kernel
theorem dL_turnsOf_4 : decode cL_turnsOf 4 = .ok (.invokevirtual 58, 3) := by decide +kernel
theorem dL_turnsOf_7 : decode cL_turnsOf 7 = .ok (.i2l, 1) := by decide +kernel
theorem dL_turnsOf_8 : decode cL_turnsOf 8 = .ok (.lastore, 1) := by decide +kernel
theorem dL_turnsOf_9 : decode cL_turnsOf 9 = .ok (.goto 6, 3) := by decide +kernel
theorem dL_turnsOf_12 : decode cL_turnsOf 12 = .ok (.astore_n 3, 1) := by decide +kernel
theorem dL_turnsOf_13 : decode cL_turnsOf 13 = .ok (.iconst 1, 1) := by decide +kernel
theorem dL_turnsOf_14 : decode cL_turnsOf 14 = .ok (.ireturn, 1) := by decide +kernel
theorem dL_turnsOf_15 : decode cL_turnsOf 15 = .ok (.iconst 0, 1) := by decide +kernel
theorem dL_turnsOf_16 : decode cL_turnsOf 16 = .ok (.ireturn, 1) := by decide +kernel
theorem dL_placeInLine_0 : decode cL_placeInLine 0 = .ok (.aload_n 2, 1) := by decide +kernel
theorem dL_placeInLine_1 : decode cL_placeInLine 1 = .ok (.iconst 0, 1) := by decide +kernel
theorem dL_placeInLine_2 : decode cL_placeInLine 2 = .ok (.aload_n 0, 1) := by decide +kernel
theorem dL_placeInLine_3 : decode cL_placeInLine 3 = .ok (.iload_n 1, 1) := by decide +kernel
theorem dL_placeInLine_4 : decode cL_placeInLine 4 = .ok (.invokevirtual 61, 3) := by decide +kernel
theorem dL_placeInLine_7 : decode cL_placeInLine 7 = .ok (.i2l, 1) := by decide +kernel
theorem dL_placeInLine_8 : decode cL_placeInLine 8 = .ok (.lastore, 1) := by decide +kernel
theorem dL_placeInLine_9 : decode cL_placeInLine 9 = .ok (.goto 6, 3) := by decide +kernel
theorem dL_placeInLine_12 : decode cL_placeInLine 12 = .ok (.astore_n 3, 1) := by decide +kernel
theorem dL_placeInLine_13 : decode cL_placeInLine 13 = .ok (.iconst 1, 1) := by decide +kernel
theorem dL_placeInLine_14 : decode cL_placeInLine 14 = .ok (.ireturn, 1) := by decide +kernel
theorem dL_placeInLine_15 : decode cL_placeInLine 15 = .ok (.iconst 0, 1) := by decide +kernel
theorem dL_placeInLine_16 : decode cL_placeInLine 16 = .ok (.ireturn, 1) := by decide +kernel
theorem dL_turnsUntilDone_0 : decode cL_turnsUntilDone 0 = .ok (.aload_n 2, 1) := by decide +kernel
theorem dL_turnsUntilDone_1 : decode cL_turnsUntilDone 1 = .ok (.iconst 0, 1) := by decide +kernel
theorem dL_turnsUntilDone_2 : decode cL_turnsUntilDone 2 = .ok (.aload_n 0, 1) := by decide +kernel
theorem dL_turnsUntilDone_3 : decode cL_turnsUntilDone 3 = .ok (.iload_n 1, 1) := by decide +kernel
theorem dL_turnsUntilDone_4 : decode cL_turnsUntilDone 4 = .ok (.invokevirtual 64, 3) := by decide +kernel
theorem dL_turnsUntilDone_7 : decode cL_turnsUntilDone 7 = .ok (.i2l, 1) := by decide +kernel
theorem dL_turnsUntilDone_8 : decode cL_turnsUntilDone 8 = .ok (.lastore, 1) := by decide +kernel
theorem dL_turnsUntilDone_9 : decode cL_turnsUntilDone 9 = .ok (.goto 6, 3) := by decide +kernel
theorem dL_turnsUntilDone_12 : decode cL_turnsUntilDone 12 = .ok (.astore_n 3, 1) := by decide +kernel
theorem dL_turnsUntilDone_13 : decode cL_turnsUntilDone 13 = .ok (.iconst 1, 1) := by decide +kernel
theorem dL_turnsUntilDone_14 : decode cL_turnsUntilDone 14 = .ok (.ireturn, 1) := by decide +kernel
theorem dL_turnsUntilDone_15 : decode cL_turnsUntilDone 15 = .ok (.iconst 0, 1) := by decide +kernel
theorem dL_turnsUntilDone_16 : decode cL_turnsUntilDone 16 = .ok (.ireturn, 1) := by decide +kernel
theorem dL_sumIn_0 : decode cL_sumIn 0 = .ok (.aload_n 3, 1) := by decide +kernel
theorem dL_sumIn_1 : decode cL_sumIn 1 = .ok (.iconst 0, 1) := by decide +kernel
theorem dL_sumIn_2 : decode cL_sumIn 2 = .ok (.aload_n 0, 1) := by decide +kernel
theorem dL_sumIn_3 : decode cL_sumIn 3 = .ok (.iload_n 1, 1) := by decide +kernel
theorem dL_sumIn_4 : decode cL_sumIn 4 = .ok (.iload_n 2, 1) := by decide +kernel
theorem dL_sumIn_5 : decode cL_sumIn 5 = .ok (.invokevirtual 67, 3) := by decide +kernel
theorem dL_sumIn_8 : decode cL_sumIn 8 = .ok (.i2l, 1) := by decide +kernel
theorem dL_sumIn_9 : decode cL_sumIn 9 = .ok (.lastore, 1) := by decide +kernel
theorem dL_sumIn_10 : decode cL_sumIn 10 = .ok (.goto 11, 3) := by decide +kernel
theorem dL_sumIn_13 : decode cL_sumIn 13 = .ok (.astore 4, 2) := by decide +kernel
theorem dL_sumIn_15 : decode cL_sumIn 15 = .ok (.iconst 1, 1) := by decide +kernel
theorem dL_sumIn_16 : decode cL_sumIn 16 = .ok (.ireturn, 1) := by decide +kernel
theorem dL_sumIn_17 : decode cL_sumIn 17 = .ok (.astore 4, 2) := by decide +kernel
theorem dL_sumIn_19 : decode cL_sumIn 19 = .ok (.iconst 2, 1) := by decide +kernel
theorem dL_sumIn_20 : decode cL_sumIn 20 = .ok (.ireturn, 1) := by decide +kernel
theorem dL_sumIn_21 : decode cL_sumIn 21 = .ok (.iconst 0, 1) := by decide +kernel
theorem dL_sumIn_22 : decode cL_sumIn 22 = .ok (.ireturn, 1) := by decide +kernel
theorem dL_placesWanted_0 : decode cL_placesWanted 0 = .ok (.aload_n 2, 1) := by decide +kernel
theorem dL_placesWanted_1 : decode cL_placesWanted 1 = .ok (.iconst 0, 1) := by decide +kernel
theorem dL_placesWanted_2 : decode cL_placesWanted 2 = .ok (.aload_n 0, 1) := by decide +kernel
theorem dL_placesWanted_3 : decode cL_placesWanted 3 = .ok (.iload_n 1, 1) := by decide +kernel
theorem dL_placesWanted_4 : decode cL_placesWanted 4 = .ok (.invokevirtual 70, 3) := by decide +kernel
theorem dL_placesWanted_7 : decode cL_placesWanted 7 = .ok (.i2l, 1) := by decide +kernel
theorem dL_placesWanted_8 : decode cL_placesWanted 8 = .ok (.lastore, 1) := by decide +kernel
theorem dL_placesWanted_9 : decode cL_placesWanted 9 = .ok (.goto 6, 3) := by decide +kernel
theorem dL_placesWanted_12 : decode cL_placesWanted 12 = .ok (.astore_n 3, 1) := by decide +kernel
theorem dL_placesWanted_13 : decode cL_placesWanted 13 = .ok (.iconst 1, 1) := by decide +kernel
theorem dL_placesWanted_14 : decode cL_placesWanted 14 = .ok (.ireturn, 1) := by decide +kernel
theorem dL_placesWanted_15 : decode cL_placesWanted 15 = .ok (.iconst 0, 1) := by decide +kernel
theorem dL_placesWanted_16 : decode cL_placesWanted 16 = .ok (.ireturn, 1) := by decide +kernel
end
section
theorem dL_law_0 : decode cL_law 0 = .ok (.new 8, 3) := by decide +kernel
theorem dL_law_3 : decode cL_law 3 = .ok (.dup, 1) := by decide +kernel
theorem dL_law_4 : decode cL_law 4 = .ok (.invokespecial 73, 3) := by decide +kernel
theorem dL_law_7 : decode cL_law 7 = .ok (.astore_n 1, 1) := by decide +kernel
theorem dL_law_8 : decode cL_law 8 = .ok (.new 74, 3) := by decide +kernel
theorem dL_law_11 : decode cL_law 11 = .ok (.dup, 1) := by decide +kernel
theorem dL_law_12 : decode cL_law 12 = .ok (.invokespecial 76, 3) := by decide +kernel
theorem dL_law_15 : decode cL_law 15 = .ok (.astore_n 2, 1) := by decide +kernel
theorem dL_law_16 : decode cL_law 16 = .ok (.iconst 1, 1) := by decide +kernel
theorem dL_law_17 : decode cL_law 17 = .ok (.newarray .long, 2) := by decide +kernel
theorem dL_law_19 : decode cL_law 19 = .ok (.astore_n 3, 1) := by decide +kernel
theorem dL_law_20 : decode cL_law 20 = .ok (.iconst 0, 1) := by decide +kernel
theorem dL_law_21 : decode cL_law 21 = .ok (.istore 4, 2) := by decide +kernel
theorem dL_law_23 : decode cL_law 23 = .ok (.iload 4, 2) := by decide +kernel
theorem dL_law_25 : decode cL_law 25 = .ok (.aload_n 0, 1) := by decide +kernel
theorem dL_law_26 : decode cL_law 26 = .ok (.arraylength, 1) := by decide +kernel
theorem dL_law_27 : decode cL_law 27 = .ok (.iconst 5, 1) := by decide +kernel
theorem dL_law_28 : decode cL_law 28 = .ok (.isub, 1) := by decide +kernel
theorem dL_law_29 : decode cL_law 29 = .ok (.if_icmp .gt 1368, 3) := by decide +kernel
theorem dL_law_32 : decode cL_law 32 = .ok (.aload_n 0, 1) := by decide +kernel
theorem dL_law_33 : decode cL_law 33 = .ok (.iload 4, 2) := by decide +kernel
theorem dL_law_35 : decode cL_law 35 = .ok (.iaload, 1) := by decide +kernel
theorem dL_law_36 : decode cL_law 36 = .ok (.bipush 31, 2) := by decide +kernel
theorem dL_law_38 : decode cL_law 38 = .ok (.iand, 1) := by decide +kernel
theorem dL_law_39 : decode cL_law 39 = .ok (.tableswitch 1352 0 27 #[125, 181, 225, 317, 385, 441, 454, 467, 480, 493, 506, 519, 532, 588, 656, 712, 768, 824, 880, 936, 992, 1048, 1104, 1160, 1173, 1241, 1297, 1338], 125) := by decide +kernel
theorem dL_law_164 : decode cL_law 164 = .ok (.aload_n 1, 1) := by decide +kernel
theorem dL_law_165 : decode cL_law 165 = .ok (.aload_n 0, 1) := by decide +kernel
theorem dL_law_166 : decode cL_law 166 = .ok (.iload 4, 2) := by decide +kernel
theorem dL_law_168 : decode cL_law 168 = .ok (.iconst 1, 1) := by decide +kernel
theorem dL_law_169 : decode cL_law 169 = .ok (.iadd, 1) := by decide +kernel
theorem dL_law_170 : decode cL_law 170 = .ok (.iaload, 1) := by decide +kernel
theorem dL_law_171 : decode cL_law 171 = .ok (.aload_n 3, 1) := by decide +kernel
theorem dL_law_172 : decode cL_law 172 = .ok (.invokestatic 77, 3) := by decide +kernel
theorem dL_law_175 : decode cL_law 175 = .ok (.istore 5, 2) := by decide +kernel
theorem dL_law_177 : decode cL_law 177 = .ok (.aload_n 2, 1) := by decide +kernel
theorem dL_law_178 : decode cL_law 178 = .ok (.aload_n 0, 1) := by decide +kernel
theorem dL_law_179 : decode cL_law 179 = .ok (.iload 4, 2) := by decide +kernel
theorem dL_law_181 : decode cL_law 181 = .ok (.iconst 1, 1) := by decide +kernel
theorem dL_law_182 : decode cL_law 182 = .ok (.iadd, 1) := by decide +kernel
theorem dL_law_183 : decode cL_law 183 = .ok (.iaload, 1) := by decide +kernel
theorem dL_law_184 : decode cL_law 184 = .ok (.invokevirtual 82, 3) := by decide +kernel
theorem dL_law_187 : decode cL_law 187 = .ok (.istore 6, 2) := by decide +kernel
theorem dL_law_189 : decode cL_law 189 = .ok (.aload_n 2, 1) := by decide +kernel
theorem dL_law_190 : decode cL_law 190 = .ok (.invokevirtual 83, 3) := by decide +kernel
theorem dL_law_193 : decode cL_law 193 = .ok (.iload 5, 2) := by decide +kernel
theorem dL_law_195 : decode cL_law 195 = .ok (.if_icmp .eq 5, 3) := by decide +kernel
theorem dL_law_198 : decode cL_law 198 = .ok (.iconst 0, 1) := by decide +kernel
theorem dL_law_199 : decode cL_law 199 = .ok (.ireturn, 1) := by decide +kernel
theorem dL_law_200 : decode cL_law 200 = .ok (.iload 5, 2) := by decide +kernel
theorem dL_law_202 : decode cL_law 202 = .ok (.ifCond .ne 15, 3) := by decide +kernel
theorem dL_law_205 : decode cL_law 205 = .ok (.aload_n 3, 1) := by decide +kernel
theorem dL_law_206 : decode cL_law 206 = .ok (.iconst 0, 1) := by decide +kernel
theorem dL_law_207 : decode cL_law 207 = .ok (.laload, 1) := by decide +kernel
theorem dL_law_208 : decode cL_law 208 = .ok (.iload 6, 2) := by decide +kernel
theorem dL_law_210 : decode cL_law 210 = .ok (.i2l, 1) := by decide +kernel
theorem dL_law_211 : decode cL_law 211 = .ok (.lcmp, 1) := by decide +kernel
theorem dL_law_212 : decode cL_law 212 = .ok (.ifCond .eq 5, 3) := by decide +kernel
theorem dL_law_215 : decode cL_law 215 = .ok (.iconst 0, 1) := by decide +kernel
theorem dL_law_216 : decode cL_law 216 = .ok (.ireturn, 1) := by decide +kernel
theorem dL_law_217 : decode cL_law 217 = .ok (.goto 1174, 3) := by decide +kernel
theorem dL_law_220 : decode cL_law 220 = .ok (.aload_n 1, 1) := by decide +kernel
theorem dL_law_221 : decode cL_law 221 = .ok (.aload_n 3, 1) := by decide +kernel
theorem dL_law_222 : decode cL_law 222 = .ok (.invokestatic 86, 3) := by decide +kernel
theorem dL_law_225 : decode cL_law 225 = .ok (.istore 5, 2) := by decide +kernel
theorem dL_law_227 : decode cL_law 227 = .ok (.aload_n 2, 1) := by decide +kernel
theorem dL_law_228 : decode cL_law 228 = .ok (.invokevirtual 89, 3) := by decide +kernel
theorem dL_law_231 : decode cL_law 231 = .ok (.istore 6, 2) := by decide +kernel
theorem dL_law_233 : decode cL_law 233 = .ok (.aload_n 2, 1) := by decide +kernel
theorem dL_law_234 : decode cL_law 234 = .ok (.invokevirtual 83, 3) := by decide +kernel
theorem dL_law_237 : decode cL_law 237 = .ok (.iload 5, 2) := by decide +kernel
theorem dL_law_239 : decode cL_law 239 = .ok (.if_icmp .eq 5, 3) := by decide +kernel
theorem dL_law_242 : decode cL_law 242 = .ok (.iconst 0, 1) := by decide +kernel
theorem dL_law_243 : decode cL_law 243 = .ok (.ireturn, 1) := by decide +kernel
theorem dL_law_244 : decode cL_law 244 = .ok (.iload 5, 2) := by decide +kernel
theorem dL_law_246 : decode cL_law 246 = .ok (.ifCond .ne 15, 3) := by decide +kernel
theorem dL_law_249 : decode cL_law 249 = .ok (.aload_n 3, 1) := by decide +kernel
theorem dL_law_250 : decode cL_law 250 = .ok (.iconst 0, 1) := by decide +kernel
theorem dL_law_251 : decode cL_law 251 = .ok (.laload, 1) := by decide +kernel
theorem dL_law_252 : decode cL_law 252 = .ok (.iload 6, 2) := by decide +kernel
theorem dL_law_254 : decode cL_law 254 = .ok (.i2l, 1) := by decide +kernel
theorem dL_law_255 : decode cL_law 255 = .ok (.lcmp, 1) := by decide +kernel
theorem dL_law_256 : decode cL_law 256 = .ok (.ifCond .eq 5, 3) := by decide +kernel
theorem dL_law_259 : decode cL_law 259 = .ok (.iconst 0, 1) := by decide +kernel
theorem dL_law_260 : decode cL_law 260 = .ok (.ireturn, 1) := by decide +kernel
theorem dL_law_261 : decode cL_law 261 = .ok (.goto 1130, 3) := by decide +kernel
theorem dL_law_264 : decode cL_law 264 = .ok (.aload_n 1, 1) := by decide +kernel
theorem dL_law_265 : decode cL_law 265 = .ok (.aload_n 0, 1) := by decide +kernel
theorem dL_law_266 : decode cL_law 266 = .ok (.iload 4, 2) := by decide +kernel
theorem dL_law_268 : decode cL_law 268 = .ok (.iconst 1, 1) := by decide +kernel
theorem dL_law_269 : decode cL_law 269 = .ok (.iadd, 1) := by decide +kernel
theorem dL_law_270 : decode cL_law 270 = .ok (.iaload, 1) := by decide +kernel
theorem dL_law_271 : decode cL_law 271 = .ok (.aload_n 0, 1) := by decide +kernel
theorem dL_law_272 : decode cL_law 272 = .ok (.iload 4, 2) := by decide +kernel
theorem dL_law_274 : decode cL_law 274 = .ok (.iconst 2, 1) := by decide +kernel
theorem dL_law_275 : decode cL_law 275 = .ok (.iadd, 1) := by decide +kernel
theorem dL_law_276 : decode cL_law 276 = .ok (.iaload, 1) := by decide +kernel
theorem dL_law_277 : decode cL_law 277 = .ok (.aload_n 0, 1) := by decide +kernel
theorem dL_law_278 : decode cL_law 278 = .ok (.iload 4, 2) := by decide +kernel
theorem dL_law_280 : decode cL_law 280 = .ok (.iconst 3, 1) := by decide +kernel
theorem dL_law_281 : decode cL_law 281 = .ok (.iadd, 1) := by decide +kernel
theorem dL_law_282 : decode cL_law 282 = .ok (.iaload, 1) := by decide +kernel
theorem dL_law_283 : decode cL_law 283 = .ok (.aload_n 0, 1) := by decide +kernel
theorem dL_law_284 : decode cL_law 284 = .ok (.iload 4, 2) := by decide +kernel
theorem dL_law_286 : decode cL_law 286 = .ok (.iconst 4, 1) := by decide +kernel
theorem dL_law_287 : decode cL_law 287 = .ok (.iadd, 1) := by decide +kernel
theorem dL_law_288 : decode cL_law 288 = .ok (.iaload, 1) := by decide +kernel
theorem dL_law_289 : decode cL_law 289 = .ok (.aload_n 3, 1) := by decide +kernel
theorem dL_law_290 : decode cL_law 290 = .ok (.invokestatic 90, 3) := by decide +kernel
theorem dL_law_293 : decode cL_law 293 = .ok (.istore 5, 2) := by decide +kernel
theorem dL_law_295 : decode cL_law 295 = .ok (.aload_n 2, 1) := by decide +kernel
theorem dL_law_296 : decode cL_law 296 = .ok (.aload_n 0, 1) := by decide +kernel
theorem dL_law_297 : decode cL_law 297 = .ok (.iload 4, 2) := by decide +kernel
theorem dL_law_299 : decode cL_law 299 = .ok (.iconst 1, 1) := by decide +kernel
theorem dL_law_300 : decode cL_law 300 = .ok (.iadd, 1) := by decide +kernel
theorem dL_law_301 : decode cL_law 301 = .ok (.iaload, 1) := by decide +kernel
theorem dL_law_302 : decode cL_law 302 = .ok (.aload_n 0, 1) := by decide +kernel
theorem dL_law_303 : decode cL_law 303 = .ok (.iload 4, 2) := by decide +kernel
theorem dL_law_305 : decode cL_law 305 = .ok (.iconst 2, 1) := by decide +kernel
theorem dL_law_306 : decode cL_law 306 = .ok (.iadd, 1) := by decide +kernel
theorem dL_law_307 : decode cL_law 307 = .ok (.iaload, 1) := by decide +kernel
theorem dL_law_308 : decode cL_law 308 = .ok (.aload_n 0, 1) := by decide +kernel
theorem dL_law_309 : decode cL_law 309 = .ok (.iload 4, 2) := by decide +kernel
theorem dL_law_311 : decode cL_law 311 = .ok (.iconst 3, 1) := by decide +kernel
theorem dL_law_312 : decode cL_law 312 = .ok (.iadd, 1) := by decide +kernel
theorem dL_law_313 : decode cL_law 313 = .ok (.iaload, 1) := by decide +kernel
theorem dL_law_314 : decode cL_law 314 = .ok (.aload_n 0, 1) := by decide +kernel
theorem dL_law_315 : decode cL_law 315 = .ok (.iload 4, 2) := by decide +kernel
theorem dL_law_317 : decode cL_law 317 = .ok (.iconst 4, 1) := by decide +kernel
theorem dL_law_318 : decode cL_law 318 = .ok (.iadd, 1) := by decide +kernel
theorem dL_law_319 : decode cL_law 319 = .ok (.iaload, 1) := by decide +kernel
theorem dL_law_320 : decode cL_law 320 = .ok (.invokevirtual 93, 3) := by decide +kernel
theorem dL_law_323 : decode cL_law 323 = .ok (.istore 6, 2) := by decide +kernel
theorem dL_law_325 : decode cL_law 325 = .ok (.aload_n 2, 1) := by decide +kernel
theorem dL_law_326 : decode cL_law 326 = .ok (.invokevirtual 83, 3) := by decide +kernel
theorem dL_law_329 : decode cL_law 329 = .ok (.iload 5, 2) := by decide +kernel
theorem dL_law_331 : decode cL_law 331 = .ok (.if_icmp .eq 5, 3) := by decide +kernel
theorem dL_law_334 : decode cL_law 334 = .ok (.iconst 0, 1) := by decide +kernel
theorem dL_law_335 : decode cL_law 335 = .ok (.ireturn, 1) := by decide +kernel
theorem dL_law_336 : decode cL_law 336 = .ok (.iload 5, 2) := by decide +kernel
theorem dL_law_338 : decode cL_law 338 = .ok (.ifCond .ne 15, 3) := by decide +kernel
theorem dL_law_341 : decode cL_law 341 = .ok (.aload_n 3, 1) := by decide +kernel
theorem dL_law_342 : decode cL_law 342 = .ok (.iconst 0, 1) := by decide +kernel
theorem dL_law_343 : decode cL_law 343 = .ok (.laload, 1) := by decide +kernel
theorem dL_law_344 : decode cL_law 344 = .ok (.iload 6, 2) := by decide +kernel
theorem dL_law_346 : decode cL_law 346 = .ok (.i2l, 1) := by decide +kernel
theorem dL_law_347 : decode cL_law 347 = .ok (.lcmp, 1) := by decide +kernel
theorem dL_law_348 : decode cL_law 348 = .ok (.ifCond .eq 5, 3) := by decide +kernel
theorem dL_law_351 : decode cL_law 351 = .ok (.iconst 0, 1) := by decide +kernel
theorem dL_law_352 : decode cL_law 352 = .ok (.ireturn, 1) := by decide +kernel
theorem dL_law_353 : decode cL_law 353 = .ok (.goto 1038, 3) := by decide +kernel
theorem dL_law_356 : decode cL_law 356 = .ok (.aload_n 1, 1) := by decide +kernel
theorem dL_law_357 : decode cL_law 357 = .ok (.aload_n 0, 1) := by decide +kernel
theorem dL_law_358 : decode cL_law 358 = .ok (.iload 4, 2) := by decide +kernel
theorem dL_law_360 : decode cL_law 360 = .ok (.iconst 1, 1) := by decide +kernel
theorem dL_law_361 : decode cL_law 361 = .ok (.iadd, 1) := by decide +kernel
theorem dL_law_362 : decode cL_law 362 = .ok (.iaload, 1) := by decide +kernel
theorem dL_law_363 : decode cL_law 363 = .ok (.aload_n 0, 1) := by decide +kernel
theorem dL_law_364 : decode cL_law 364 = .ok (.iload 4, 2) := by decide +kernel
theorem dL_law_366 : decode cL_law 366 = .ok (.iconst 2, 1) := by decide +kernel
theorem dL_law_367 : decode cL_law 367 = .ok (.iadd, 1) := by decide +kernel
theorem dL_law_368 : decode cL_law 368 = .ok (.iaload, 1) := by decide +kernel
theorem dL_law_369 : decode cL_law 369 = .ok (.aload_n 3, 1) := by decide +kernel
theorem dL_law_370 : decode cL_law 370 = .ok (.invokestatic 94, 3) := by decide +kernel
theorem dL_law_373 : decode cL_law 373 = .ok (.istore 5, 2) := by decide +kernel
theorem dL_law_375 : decode cL_law 375 = .ok (.aload_n 2, 1) := by decide +kernel
theorem dL_law_376 : decode cL_law 376 = .ok (.aload_n 0, 1) := by decide +kernel
theorem dL_law_377 : decode cL_law 377 = .ok (.iload 4, 2) := by decide +kernel
theorem dL_law_379 : decode cL_law 379 = .ok (.iconst 1, 1) := by decide +kernel
theorem dL_law_380 : decode cL_law 380 = .ok (.iadd, 1) := by decide +kernel
theorem dL_law_381 : decode cL_law 381 = .ok (.iaload, 1) := by decide +kernel
theorem dL_law_382 : decode cL_law 382 = .ok (.aload_n 0, 1) := by decide +kernel
theorem dL_law_383 : decode cL_law 383 = .ok (.iload 4, 2) := by decide +kernel
theorem dL_law_385 : decode cL_law 385 = .ok (.iconst 2, 1) := by decide +kernel
theorem dL_law_386 : decode cL_law 386 = .ok (.iadd, 1) := by decide +kernel
theorem dL_law_387 : decode cL_law 387 = .ok (.iaload, 1) := by decide +kernel
theorem dL_law_388 : decode cL_law 388 = .ok (.invokevirtual 97, 3) := by decide +kernel
theorem dL_law_391 : decode cL_law 391 = .ok (.istore 6, 2) := by decide +kernel
theorem dL_law_393 : decode cL_law 393 = .ok (.aload_n 2, 1) := by decide +kernel
theorem dL_law_394 : decode cL_law 394 = .ok (.invokevirtual 83, 3) := by decide +kernel
theorem dL_law_397 : decode cL_law 397 = .ok (.iload 5, 2) := by decide +kernel
theorem dL_law_399 : decode cL_law 399 = .ok (.if_icmp .eq 5, 3) := by decide +kernel
theorem dL_law_402 : decode cL_law 402 = .ok (.iconst 0, 1) := by decide +kernel
theorem dL_law_403 : decode cL_law 403 = .ok (.ireturn, 1) := by decide +kernel
theorem dL_law_404 : decode cL_law 404 = .ok (.iload 5, 2) := by decide +kernel
theorem dL_law_406 : decode cL_law 406 = .ok (.ifCond .ne 15, 3) := by decide +kernel
theorem dL_law_409 : decode cL_law 409 = .ok (.aload_n 3, 1) := by decide +kernel
theorem dL_law_410 : decode cL_law 410 = .ok (.iconst 0, 1) := by decide +kernel
theorem dL_law_411 : decode cL_law 411 = .ok (.laload, 1) := by decide +kernel
theorem dL_law_412 : decode cL_law 412 = .ok (.iload 6, 2) := by decide +kernel
theorem dL_law_414 : decode cL_law 414 = .ok (.i2l, 1) := by decide +kernel
theorem dL_law_415 : decode cL_law 415 = .ok (.lcmp, 1) := by decide +kernel
theorem dL_law_416 : decode cL_law 416 = .ok (.ifCond .eq 5, 3) := by decide +kernel
theorem dL_law_419 : decode cL_law 419 = .ok (.iconst 0, 1) := by decide +kernel
theorem dL_law_420 : decode cL_law 420 = .ok (.ireturn, 1) := by decide +kernel
theorem dL_law_421 : decode cL_law 421 = .ok (.goto 970, 3) := by decide +kernel
theorem dL_law_424 : decode cL_law 424 = .ok (.aload_n 1, 1) := by decide +kernel
theorem dL_law_425 : decode cL_law 425 = .ok (.aload_n 0, 1) := by decide +kernel
theorem dL_law_426 : decode cL_law 426 = .ok (.iload 4, 2) := by decide +kernel
theorem dL_law_428 : decode cL_law 428 = .ok (.iconst 1, 1) := by decide +kernel
theorem dL_law_429 : decode cL_law 429 = .ok (.iadd, 1) := by decide +kernel
theorem dL_law_430 : decode cL_law 430 = .ok (.iaload, 1) := by decide +kernel
theorem dL_law_431 : decode cL_law 431 = .ok (.aload_n 3, 1) := by decide +kernel
theorem dL_law_432 : decode cL_law 432 = .ok (.invokestatic 98, 3) := by decide +kernel
theorem dL_law_435 : decode cL_law 435 = .ok (.istore 5, 2) := by decide +kernel
theorem dL_law_437 : decode cL_law 437 = .ok (.aload_n 2, 1) := by decide +kernel
theorem dL_law_438 : decode cL_law 438 = .ok (.aload_n 0, 1) := by decide +kernel
theorem dL_law_439 : decode cL_law 439 = .ok (.iload 4, 2) := by decide +kernel
theorem dL_law_441 : decode cL_law 441 = .ok (.iconst 1, 1) := by decide +kernel
theorem dL_law_442 : decode cL_law 442 = .ok (.iadd, 1) := by decide +kernel
theorem dL_law_443 : decode cL_law 443 = .ok (.iaload, 1) := by decide +kernel
theorem dL_law_444 : decode cL_law 444 = .ok (.invokevirtual 100, 3) := by decide +kernel
theorem dL_law_447 : decode cL_law 447 = .ok (.istore 6, 2) := by decide +kernel
theorem dL_law_449 : decode cL_law 449 = .ok (.aload_n 2, 1) := by decide +kernel
theorem dL_law_450 : decode cL_law 450 = .ok (.invokevirtual 83, 3) := by decide +kernel
theorem dL_law_453 : decode cL_law 453 = .ok (.iload 5, 2) := by decide +kernel
theorem dL_law_455 : decode cL_law 455 = .ok (.if_icmp .eq 5, 3) := by decide +kernel
theorem dL_law_458 : decode cL_law 458 = .ok (.iconst 0, 1) := by decide +kernel
theorem dL_law_459 : decode cL_law 459 = .ok (.ireturn, 1) := by decide +kernel
theorem dL_law_460 : decode cL_law 460 = .ok (.iload 5, 2) := by decide +kernel
theorem dL_law_462 : decode cL_law 462 = .ok (.ifCond .ne 15, 3) := by decide +kernel
theorem dL_law_465 : decode cL_law 465 = .ok (.aload_n 3, 1) := by decide +kernel
theorem dL_law_466 : decode cL_law 466 = .ok (.iconst 0, 1) := by decide +kernel
theorem dL_law_467 : decode cL_law 467 = .ok (.laload, 1) := by decide +kernel
theorem dL_law_468 : decode cL_law 468 = .ok (.iload 6, 2) := by decide +kernel
theorem dL_law_470 : decode cL_law 470 = .ok (.i2l, 1) := by decide +kernel
theorem dL_law_471 : decode cL_law 471 = .ok (.lcmp, 1) := by decide +kernel
theorem dL_law_472 : decode cL_law 472 = .ok (.ifCond .eq 5, 3) := by decide +kernel
theorem dL_law_475 : decode cL_law 475 = .ok (.iconst 0, 1) := by decide +kernel
theorem dL_law_476 : decode cL_law 476 = .ok (.ireturn, 1) := by decide +kernel
theorem dL_law_477 : decode cL_law 477 = .ok (.goto 914, 3) := by decide +kernel
theorem dL_law_480 : decode cL_law 480 = .ok (.aload_n 1, 1) := by decide +kernel
theorem dL_law_481 : decode cL_law 481 = .ok (.invokevirtual 101, 3) := by decide +kernel
theorem dL_law_484 : decode cL_law 484 = .ok (.aload_n 2, 1) := by decide +kernel
theorem dL_law_485 : decode cL_law 485 = .ok (.invokevirtual 104, 3) := by decide +kernel
theorem dL_law_488 : decode cL_law 488 = .ok (.if_icmp .eq 903, 3) := by decide +kernel
theorem dL_law_491 : decode cL_law 491 = .ok (.iconst 0, 1) := by decide +kernel
theorem dL_law_492 : decode cL_law 492 = .ok (.ireturn, 1) := by decide +kernel
theorem dL_law_493 : decode cL_law 493 = .ok (.aload_n 1, 1) := by decide +kernel
theorem dL_law_494 : decode cL_law 494 = .ok (.invokevirtual 105, 3) := by decide +kernel
theorem dL_law_497 : decode cL_law 497 = .ok (.aload_n 2, 1) := by decide +kernel
theorem dL_law_498 : decode cL_law 498 = .ok (.invokevirtual 108, 3) := by decide +kernel
theorem dL_law_501 : decode cL_law 501 = .ok (.if_icmp .eq 890, 3) := by decide +kernel
theorem dL_law_504 : decode cL_law 504 = .ok (.iconst 0, 1) := by decide +kernel
theorem dL_law_505 : decode cL_law 505 = .ok (.ireturn, 1) := by decide +kernel
theorem dL_law_506 : decode cL_law 506 = .ok (.aload_n 1, 1) := by decide +kernel
theorem dL_law_507 : decode cL_law 507 = .ok (.invokevirtual 109, 3) := by decide +kernel
theorem dL_law_510 : decode cL_law 510 = .ok (.aload_n 2, 1) := by decide +kernel
theorem dL_law_511 : decode cL_law 511 = .ok (.invokevirtual 112, 3) := by decide +kernel
theorem dL_law_514 : decode cL_law 514 = .ok (.if_icmp .eq 877, 3) := by decide +kernel
theorem dL_law_517 : decode cL_law 517 = .ok (.iconst 0, 1) := by decide +kernel
theorem dL_law_518 : decode cL_law 518 = .ok (.ireturn, 1) := by decide +kernel
theorem dL_law_519 : decode cL_law 519 = .ok (.aload_n 1, 1) := by decide +kernel
theorem dL_law_520 : decode cL_law 520 = .ok (.invokevirtual 113, 3) := by decide +kernel
theorem dL_law_523 : decode cL_law 523 = .ok (.aload_n 2, 1) := by decide +kernel
theorem dL_law_524 : decode cL_law 524 = .ok (.invokevirtual 116, 3) := by decide +kernel
theorem dL_law_527 : decode cL_law 527 = .ok (.if_icmp .eq 864, 3) := by decide +kernel
theorem dL_law_530 : decode cL_law 530 = .ok (.iconst 0, 1) := by decide +kernel
theorem dL_law_531 : decode cL_law 531 = .ok (.ireturn, 1) := by decide +kernel
theorem dL_law_532 : decode cL_law 532 = .ok (.aload_n 1, 1) := by decide +kernel
theorem dL_law_533 : decode cL_law 533 = .ok (.invokevirtual 117, 3) := by decide +kernel
theorem dL_law_536 : decode cL_law 536 = .ok (.aload_n 2, 1) := by decide +kernel
theorem dL_law_537 : decode cL_law 537 = .ok (.invokevirtual 120, 3) := by decide +kernel
theorem dL_law_540 : decode cL_law 540 = .ok (.if_icmp .eq 851, 3) := by decide +kernel
theorem dL_law_543 : decode cL_law 543 = .ok (.iconst 0, 1) := by decide +kernel
theorem dL_law_544 : decode cL_law 544 = .ok (.ireturn, 1) := by decide +kernel
end
section
theorem dL_law_545 : decode cL_law 545 = .ok (.aload_n 1, 1) := by decide +kernel
theorem dL_law_546 : decode cL_law 546 = .ok (.invokevirtual 121, 3) := by decide +kernel
theorem dL_law_549 : decode cL_law 549 = .ok (.aload_n 2, 1) := by decide +kernel
theorem dL_law_550 : decode cL_law 550 = .ok (.invokevirtual 124, 3) := by decide +kernel
theorem dL_law_553 : decode cL_law 553 = .ok (.if_icmp .eq 838, 3) := by decide +kernel
theorem dL_law_556 : decode cL_law 556 = .ok (.iconst 0, 1) := by decide +kernel
theorem dL_law_557 : decode cL_law 557 = .ok (.ireturn, 1) := by decide +kernel
theorem dL_law_558 : decode cL_law 558 = .ok (.aload_n 1, 1) := by decide +kernel
theorem dL_law_559 : decode cL_law 559 = .ok (.invokevirtual 125, 3) := by decide +kernel
theorem dL_law_562 : decode cL_law 562 = .ok (.aload_n 2, 1) := by decide +kernel
theorem dL_law_563 : decode cL_law 563 = .ok (.invokevirtual 129, 3) := by decide +kernel
theorem dL_law_566 : decode cL_law 566 = .ok (.if_icmp .eq 825, 3) := by decide +kernel
theorem dL_law_569 : decode cL_law 569 = .ok (.iconst 0, 1) := by decide +kernel
theorem dL_law_570 : decode cL_law 570 = .ok (.ireturn, 1) := by decide +kernel
theorem dL_law_571 : decode cL_law 571 = .ok (.aload_n 1, 1) := by decide +kernel
theorem dL_law_572 : decode cL_law 572 = .ok (.aload_n 0, 1) := by decide +kernel
theorem dL_law_573 : decode cL_law 573 = .ok (.iload 4, 2) := by decide +kernel
theorem dL_law_575 : decode cL_law 575 = .ok (.iconst 1, 1) := by decide +kernel
theorem dL_law_576 : decode cL_law 576 = .ok (.iadd, 1) := by decide +kernel
theorem dL_law_577 : decode cL_law 577 = .ok (.iaload, 1) := by decide +kernel
theorem dL_law_578 : decode cL_law 578 = .ok (.aload_n 3, 1) := by decide +kernel
theorem dL_law_579 : decode cL_law 579 = .ok (.invokestatic 130, 3) := by decide +kernel
theorem dL_law_582 : decode cL_law 582 = .ok (.istore 5, 2) := by decide +kernel
theorem dL_law_584 : decode cL_law 584 = .ok (.aload_n 2, 1) := by decide +kernel
theorem dL_law_585 : decode cL_law 585 = .ok (.aload_n 0, 1) := by decide +kernel
theorem dL_law_586 : decode cL_law 586 = .ok (.iload 4, 2) := by decide +kernel
theorem dL_law_588 : decode cL_law 588 = .ok (.iconst 1, 1) := by decide +kernel
theorem dL_law_589 : decode cL_law 589 = .ok (.iadd, 1) := by decide +kernel
theorem dL_law_590 : decode cL_law 590 = .ok (.iaload, 1) := by decide +kernel
theorem dL_law_591 : decode cL_law 591 = .ok (.invokevirtual 132, 3) := by decide +kernel
theorem dL_law_594 : decode cL_law 594 = .ok (.istore 6, 2) := by decide +kernel
theorem dL_law_596 : decode cL_law 596 = .ok (.aload_n 2, 1) := by decide +kernel
theorem dL_law_597 : decode cL_law 597 = .ok (.invokevirtual 83, 3) := by decide +kernel
theorem dL_law_600 : decode cL_law 600 = .ok (.iload 5, 2) := by decide +kernel
theorem dL_law_602 : decode cL_law 602 = .ok (.if_icmp .eq 5, 3) := by decide +kernel
theorem dL_law_605 : decode cL_law 605 = .ok (.iconst 0, 1) := by decide +kernel
theorem dL_law_606 : decode cL_law 606 = .ok (.ireturn, 1) := by decide +kernel
theorem dL_law_607 : decode cL_law 607 = .ok (.iload 5, 2) := by decide +kernel
theorem dL_law_609 : decode cL_law 609 = .ok (.ifCond .ne 15, 3) := by decide +kernel
theorem dL_law_612 : decode cL_law 612 = .ok (.aload_n 3, 1) := by decide +kernel
theorem dL_law_613 : decode cL_law 613 = .ok (.iconst 0, 1) := by decide +kernel
theorem dL_law_614 : decode cL_law 614 = .ok (.laload, 1) := by decide +kernel
theorem dL_law_615 : decode cL_law 615 = .ok (.iload 6, 2) := by decide +kernel
theorem dL_law_617 : decode cL_law 617 = .ok (.i2l, 1) := by decide +kernel
theorem dL_law_618 : decode cL_law 618 = .ok (.lcmp, 1) := by decide +kernel
theorem dL_law_619 : decode cL_law 619 = .ok (.ifCond .eq 5, 3) := by decide +kernel
theorem dL_law_622 : decode cL_law 622 = .ok (.iconst 0, 1) := by decide +kernel
theorem dL_law_623 : decode cL_law 623 = .ok (.ireturn, 1) := by decide +kernel
theorem dL_law_624 : decode cL_law 624 = .ok (.goto 767, 3) := by decide +kernel
theorem dL_law_627 : decode cL_law 627 = .ok (.aload_n 1, 1) := by decide +kernel
theorem dL_law_628 : decode cL_law 628 = .ok (.aload_n 0, 1) := by decide +kernel
theorem dL_law_629 : decode cL_law 629 = .ok (.iload 4, 2) := by decide +kernel
theorem dL_law_631 : decode cL_law 631 = .ok (.iconst 1, 1) := by decide +kernel
theorem dL_law_632 : decode cL_law 632 = .ok (.iadd, 1) := by decide +kernel
theorem dL_law_633 : decode cL_law 633 = .ok (.iaload, 1) := by decide +kernel
theorem dL_law_634 : decode cL_law 634 = .ok (.aload_n 0, 1) := by decide +kernel
theorem dL_law_635 : decode cL_law 635 = .ok (.iload 4, 2) := by decide +kernel
theorem dL_law_637 : decode cL_law 637 = .ok (.iconst 2, 1) := by decide +kernel
theorem dL_law_638 : decode cL_law 638 = .ok (.iadd, 1) := by decide +kernel
theorem dL_law_639 : decode cL_law 639 = .ok (.iaload, 1) := by decide +kernel
theorem dL_law_640 : decode cL_law 640 = .ok (.aload_n 3, 1) := by decide +kernel
theorem dL_law_641 : decode cL_law 641 = .ok (.invokestatic 133, 3) := by decide +kernel
theorem dL_law_644 : decode cL_law 644 = .ok (.istore 5, 2) := by decide +kernel
theorem dL_law_646 : decode cL_law 646 = .ok (.aload_n 2, 1) := by decide +kernel
theorem dL_law_647 : decode cL_law 647 = .ok (.aload_n 0, 1) := by decide +kernel
theorem dL_law_648 : decode cL_law 648 = .ok (.iload 4, 2) := by decide +kernel
theorem dL_law_650 : decode cL_law 650 = .ok (.iconst 1, 1) := by decide +kernel
theorem dL_law_651 : decode cL_law 651 = .ok (.iadd, 1) := by decide +kernel
theorem dL_law_652 : decode cL_law 652 = .ok (.iaload, 1) := by decide +kernel
theorem dL_law_653 : decode cL_law 653 = .ok (.aload_n 0, 1) := by decide +kernel
theorem dL_law_654 : decode cL_law 654 = .ok (.iload 4, 2) := by decide +kernel
theorem dL_law_656 : decode cL_law 656 = .ok (.iconst 2, 1) := by decide +kernel
theorem dL_law_657 : decode cL_law 657 = .ok (.iadd, 1) := by decide +kernel
theorem dL_law_658 : decode cL_law 658 = .ok (.iaload, 1) := by decide +kernel
theorem dL_law_659 : decode cL_law 659 = .ok (.invokevirtual 135, 3) := by decide +kernel
theorem dL_law_662 : decode cL_law 662 = .ok (.istore 6, 2) := by decide +kernel
theorem dL_law_664 : decode cL_law 664 = .ok (.aload_n 2, 1) := by decide +kernel
theorem dL_law_665 : decode cL_law 665 = .ok (.invokevirtual 83, 3) := by decide +kernel
theorem dL_law_668 : decode cL_law 668 = .ok (.iload 5, 2) := by decide +kernel
theorem dL_law_670 : decode cL_law 670 = .ok (.if_icmp .eq 5, 3) := by decide +kernel
theorem dL_law_673 : decode cL_law 673 = .ok (.iconst 0, 1) := by decide +kernel
theorem dL_law_674 : decode cL_law 674 = .ok (.ireturn, 1) := by decide +kernel
theorem dL_law_675 : decode cL_law 675 = .ok (.iload 5, 2) := by decide +kernel
theorem dL_law_677 : decode cL_law 677 = .ok (.ifCond .ne 15, 3) := by decide +kernel
theorem dL_law_680 : decode cL_law 680 = .ok (.aload_n 3, 1) := by decide +kernel
theorem dL_law_681 : decode cL_law 681 = .ok (.iconst 0, 1) := by decide +kernel
theorem dL_law_682 : decode cL_law 682 = .ok (.laload, 1) := by decide +kernel
theorem dL_law_683 : decode cL_law 683 = .ok (.iload 6, 2) := by decide +kernel
theorem dL_law_685 : decode cL_law 685 = .ok (.i2l, 1) := by decide +kernel
theorem dL_law_686 : decode cL_law 686 = .ok (.lcmp, 1) := by decide +kernel
theorem dL_law_687 : decode cL_law 687 = .ok (.ifCond .eq 5, 3) := by decide +kernel
theorem dL_law_690 : decode cL_law 690 = .ok (.iconst 0, 1) := by decide +kernel
theorem dL_law_691 : decode cL_law 691 = .ok (.ireturn, 1) := by decide +kernel
theorem dL_law_692 : decode cL_law 692 = .ok (.goto 699, 3) := by decide +kernel
theorem dL_law_695 : decode cL_law 695 = .ok (.aload_n 1, 1) := by decide +kernel
theorem dL_law_696 : decode cL_law 696 = .ok (.aload_n 0, 1) := by decide +kernel
theorem dL_law_697 : decode cL_law 697 = .ok (.iload 4, 2) := by decide +kernel
theorem dL_law_699 : decode cL_law 699 = .ok (.iconst 1, 1) := by decide +kernel
theorem dL_law_700 : decode cL_law 700 = .ok (.iadd, 1) := by decide +kernel
theorem dL_law_701 : decode cL_law 701 = .ok (.iaload, 1) := by decide +kernel
theorem dL_law_702 : decode cL_law 702 = .ok (.aload_n 3, 1) := by decide +kernel
theorem dL_law_703 : decode cL_law 703 = .ok (.invokestatic 136, 3) := by decide +kernel
theorem dL_law_706 : decode cL_law 706 = .ok (.istore 5, 2) := by decide +kernel
theorem dL_law_708 : decode cL_law 708 = .ok (.aload_n 2, 1) := by decide +kernel
theorem dL_law_709 : decode cL_law 709 = .ok (.aload_n 0, 1) := by decide +kernel
theorem dL_law_710 : decode cL_law 710 = .ok (.iload 4, 2) := by decide +kernel
theorem dL_law_712 : decode cL_law 712 = .ok (.iconst 1, 1) := by decide +kernel
theorem dL_law_713 : decode cL_law 713 = .ok (.iadd, 1) := by decide +kernel
theorem dL_law_714 : decode cL_law 714 = .ok (.iaload, 1) := by decide +kernel
theorem dL_law_715 : decode cL_law 715 = .ok (.invokevirtual 138, 3) := by decide +kernel
theorem dL_law_718 : decode cL_law 718 = .ok (.istore 6, 2) := by decide +kernel
theorem dL_law_720 : decode cL_law 720 = .ok (.aload_n 2, 1) := by decide +kernel
theorem dL_law_721 : decode cL_law 721 = .ok (.invokevirtual 83, 3) := by decide +kernel
theorem dL_law_724 : decode cL_law 724 = .ok (.iload 5, 2) := by decide +kernel
theorem dL_law_726 : decode cL_law 726 = .ok (.if_icmp .eq 5, 3) := by decide +kernel
theorem dL_law_729 : decode cL_law 729 = .ok (.iconst 0, 1) := by decide +kernel
theorem dL_law_730 : decode cL_law 730 = .ok (.ireturn, 1) := by decide +kernel
theorem dL_law_731 : decode cL_law 731 = .ok (.iload 5, 2) := by decide +kernel
theorem dL_law_733 : decode cL_law 733 = .ok (.ifCond .ne 15, 3) := by decide +kernel
theorem dL_law_736 : decode cL_law 736 = .ok (.aload_n 3, 1) := by decide +kernel
theorem dL_law_737 : decode cL_law 737 = .ok (.iconst 0, 1) := by decide +kernel
theorem dL_law_738 : decode cL_law 738 = .ok (.laload, 1) := by decide +kernel
theorem dL_law_739 : decode cL_law 739 = .ok (.iload 6, 2) := by decide +kernel
theorem dL_law_741 : decode cL_law 741 = .ok (.i2l, 1) := by decide +kernel
theorem dL_law_742 : decode cL_law 742 = .ok (.lcmp, 1) := by decide +kernel
theorem dL_law_743 : decode cL_law 743 = .ok (.ifCond .eq 5, 3) := by decide +kernel
theorem dL_law_746 : decode cL_law 746 = .ok (.iconst 0, 1) := by decide +kernel
theorem dL_law_747 : decode cL_law 747 = .ok (.ireturn, 1) := by decide +kernel
theorem dL_law_748 : decode cL_law 748 = .ok (.goto 643, 3) := by decide +kernel
theorem dL_law_751 : decode cL_law 751 = .ok (.aload_n 1, 1) := by decide +kernel
theorem dL_law_752 : decode cL_law 752 = .ok (.aload_n 0, 1) := by decide +kernel
theorem dL_law_753 : decode cL_law 753 = .ok (.iload 4, 2) := by decide +kernel
theorem dL_law_755 : decode cL_law 755 = .ok (.iconst 1, 1) := by decide +kernel
theorem dL_law_756 : decode cL_law 756 = .ok (.iadd, 1) := by decide +kernel
theorem dL_law_757 : decode cL_law 757 = .ok (.iaload, 1) := by decide +kernel
theorem dL_law_758 : decode cL_law 758 = .ok (.aload_n 3, 1) := by decide +kernel
theorem dL_law_759 : decode cL_law 759 = .ok (.invokestatic 139, 3) := by decide +kernel
theorem dL_law_762 : decode cL_law 762 = .ok (.istore 5, 2) := by decide +kernel
theorem dL_law_764 : decode cL_law 764 = .ok (.aload_n 2, 1) := by decide +kernel
theorem dL_law_765 : decode cL_law 765 = .ok (.aload_n 0, 1) := by decide +kernel
theorem dL_law_766 : decode cL_law 766 = .ok (.iload 4, 2) := by decide +kernel
theorem dL_law_768 : decode cL_law 768 = .ok (.iconst 1, 1) := by decide +kernel
theorem dL_law_769 : decode cL_law 769 = .ok (.iadd, 1) := by decide +kernel
theorem dL_law_770 : decode cL_law 770 = .ok (.iaload, 1) := by decide +kernel
theorem dL_law_771 : decode cL_law 771 = .ok (.invokevirtual 141, 3) := by decide +kernel
theorem dL_law_774 : decode cL_law 774 = .ok (.istore 6, 2) := by decide +kernel
theorem dL_law_776 : decode cL_law 776 = .ok (.aload_n 2, 1) := by decide +kernel
theorem dL_law_777 : decode cL_law 777 = .ok (.invokevirtual 83, 3) := by decide +kernel
theorem dL_law_780 : decode cL_law 780 = .ok (.iload 5, 2) := by decide +kernel
theorem dL_law_782 : decode cL_law 782 = .ok (.if_icmp .eq 5, 3) := by decide +kernel
theorem dL_law_785 : decode cL_law 785 = .ok (.iconst 0, 1) := by decide +kernel
theorem dL_law_786 : decode cL_law 786 = .ok (.ireturn, 1) := by decide +kernel
theorem dL_law_787 : decode cL_law 787 = .ok (.iload 5, 2) := by decide +kernel
theorem dL_law_789 : decode cL_law 789 = .ok (.ifCond .ne 15, 3) := by decide +kernel
theorem dL_law_792 : decode cL_law 792 = .ok (.aload_n 3, 1) := by decide +kernel
theorem dL_law_793 : decode cL_law 793 = .ok (.iconst 0, 1) := by decide +kernel
theorem dL_law_794 : decode cL_law 794 = .ok (.laload, 1) := by decide +kernel
theorem dL_law_795 : decode cL_law 795 = .ok (.iload 6, 2) := by decide +kernel
theorem dL_law_797 : decode cL_law 797 = .ok (.i2l, 1) := by decide +kernel
theorem dL_law_798 : decode cL_law 798 = .ok (.lcmp, 1) := by decide +kernel
theorem dL_law_799 : decode cL_law 799 = .ok (.ifCond .eq 5, 3) := by decide +kernel
theorem dL_law_802 : decode cL_law 802 = .ok (.iconst 0, 1) := by decide +kernel
theorem dL_law_803 : decode cL_law 803 = .ok (.ireturn, 1) := by decide +kernel
theorem dL_law_804 : decode cL_law 804 = .ok (.goto 587, 3) := by decide +kernel
theorem dL_law_807 : decode cL_law 807 = .ok (.aload_n 1, 1) := by decide +kernel
theorem dL_law_808 : decode cL_law 808 = .ok (.aload_n 0, 1) := by decide +kernel
theorem dL_law_809 : decode cL_law 809 = .ok (.iload 4, 2) := by decide +kernel
theorem dL_law_811 : decode cL_law 811 = .ok (.iconst 1, 1) := by decide +kernel
theorem dL_law_812 : decode cL_law 812 = .ok (.iadd, 1) := by decide +kernel
theorem dL_law_813 : decode cL_law 813 = .ok (.iaload, 1) := by decide +kernel
theorem dL_law_814 : decode cL_law 814 = .ok (.aload_n 3, 1) := by decide +kernel
theorem dL_law_815 : decode cL_law 815 = .ok (.invokestatic 142, 3) := by decide +kernel
theorem dL_law_818 : decode cL_law 818 = .ok (.istore 5, 2) := by decide +kernel
theorem dL_law_820 : decode cL_law 820 = .ok (.aload_n 2, 1) := by decide +kernel
theorem dL_law_821 : decode cL_law 821 = .ok (.aload_n 0, 1) := by decide +kernel
theorem dL_law_822 : decode cL_law 822 = .ok (.iload 4, 2) := by decide +kernel
theorem dL_law_824 : decode cL_law 824 = .ok (.iconst 1, 1) := by decide +kernel
theorem dL_law_825 : decode cL_law 825 = .ok (.iadd, 1) := by decide +kernel
theorem dL_law_826 : decode cL_law 826 = .ok (.iaload, 1) := by decide +kernel
theorem dL_law_827 : decode cL_law 827 = .ok (.invokevirtual 144, 3) := by decide +kernel
theorem dL_law_830 : decode cL_law 830 = .ok (.istore 6, 2) := by decide +kernel
theorem dL_law_832 : decode cL_law 832 = .ok (.aload_n 2, 1) := by decide +kernel
theorem dL_law_833 : decode cL_law 833 = .ok (.invokevirtual 83, 3) := by decide +kernel
theorem dL_law_836 : decode cL_law 836 = .ok (.iload 5, 2) := by decide +kernel
theorem dL_law_838 : decode cL_law 838 = .ok (.if_icmp .eq 5, 3) := by decide +kernel
theorem dL_law_841 : decode cL_law 841 = .ok (.iconst 0, 1) := by decide +kernel
theorem dL_law_842 : decode cL_law 842 = .ok (.ireturn, 1) := by decide +kernel
theorem dL_law_843 : decode cL_law 843 = .ok (.iload 5, 2) := by decide +kernel
theorem dL_law_845 : decode cL_law 845 = .ok (.ifCond .ne 15, 3) := by decide +kernel
theorem dL_law_848 : decode cL_law 848 = .ok (.aload_n 3, 1) := by decide +kernel
theorem dL_law_849 : decode cL_law 849 = .ok (.iconst 0, 1) := by decide +kernel
theorem dL_law_850 : decode cL_law 850 = .ok (.laload, 1) := by decide +kernel
theorem dL_law_851 : decode cL_law 851 = .ok (.iload 6, 2) := by decide +kernel
theorem dL_law_853 : decode cL_law 853 = .ok (.i2l, 1) := by decide +kernel
theorem dL_law_854 : decode cL_law 854 = .ok (.lcmp, 1) := by decide +kernel
theorem dL_law_855 : decode cL_law 855 = .ok (.ifCond .eq 5, 3) := by decide +kernel
theorem dL_law_858 : decode cL_law 858 = .ok (.iconst 0, 1) := by decide +kernel
theorem dL_law_859 : decode cL_law 859 = .ok (.ireturn, 1) := by decide +kernel
theorem dL_law_860 : decode cL_law 860 = .ok (.goto 531, 3) := by decide +kernel
theorem dL_law_863 : decode cL_law 863 = .ok (.aload_n 1, 1) := by decide +kernel
theorem dL_law_864 : decode cL_law 864 = .ok (.aload_n 0, 1) := by decide +kernel
theorem dL_law_865 : decode cL_law 865 = .ok (.iload 4, 2) := by decide +kernel
theorem dL_law_867 : decode cL_law 867 = .ok (.iconst 1, 1) := by decide +kernel
theorem dL_law_868 : decode cL_law 868 = .ok (.iadd, 1) := by decide +kernel
theorem dL_law_869 : decode cL_law 869 = .ok (.iaload, 1) := by decide +kernel
theorem dL_law_870 : decode cL_law 870 = .ok (.aload_n 3, 1) := by decide +kernel
theorem dL_law_871 : decode cL_law 871 = .ok (.invokestatic 145, 3) := by decide +kernel
theorem dL_law_874 : decode cL_law 874 = .ok (.istore 5, 2) := by decide +kernel
theorem dL_law_876 : decode cL_law 876 = .ok (.aload_n 2, 1) := by decide +kernel
theorem dL_law_877 : decode cL_law 877 = .ok (.aload_n 0, 1) := by decide +kernel
theorem dL_law_878 : decode cL_law 878 = .ok (.iload 4, 2) := by decide +kernel
theorem dL_law_880 : decode cL_law 880 = .ok (.iconst 1, 1) := by decide +kernel
theorem dL_law_881 : decode cL_law 881 = .ok (.iadd, 1) := by decide +kernel
theorem dL_law_882 : decode cL_law 882 = .ok (.iaload, 1) := by decide +kernel
theorem dL_law_883 : decode cL_law 883 = .ok (.invokevirtual 147, 3) := by decide +kernel
theorem dL_law_886 : decode cL_law 886 = .ok (.istore 6, 2) := by decide +kernel
theorem dL_law_888 : decode cL_law 888 = .ok (.aload_n 2, 1) := by decide +kernel
theorem dL_law_889 : decode cL_law 889 = .ok (.invokevirtual 83, 3) := by decide +kernel
theorem dL_law_892 : decode cL_law 892 = .ok (.iload 5, 2) := by decide +kernel
theorem dL_law_894 : decode cL_law 894 = .ok (.if_icmp .eq 5, 3) := by decide +kernel
theorem dL_law_897 : decode cL_law 897 = .ok (.iconst 0, 1) := by decide +kernel
theorem dL_law_898 : decode cL_law 898 = .ok (.ireturn, 1) := by decide +kernel
theorem dL_law_899 : decode cL_law 899 = .ok (.iload 5, 2) := by decide +kernel
theorem dL_law_901 : decode cL_law 901 = .ok (.ifCond .ne 15, 3) := by decide +kernel
theorem dL_law_904 : decode cL_law 904 = .ok (.aload_n 3, 1) := by decide +kernel
theorem dL_law_905 : decode cL_law 905 = .ok (.iconst 0, 1) := by decide +kernel
theorem dL_law_906 : decode cL_law 906 = .ok (.laload, 1) := by decide +kernel
theorem dL_law_907 : decode cL_law 907 = .ok (.iload 6, 2) := by decide +kernel
theorem dL_law_909 : decode cL_law 909 = .ok (.i2l, 1) := by decide +kernel
theorem dL_law_910 : decode cL_law 910 = .ok (.lcmp, 1) := by decide +kernel
theorem dL_law_911 : decode cL_law 911 = .ok (.ifCond .eq 5, 3) := by decide +kernel
theorem dL_law_914 : decode cL_law 914 = .ok (.iconst 0, 1) := by decide +kernel
theorem dL_law_915 : decode cL_law 915 = .ok (.ireturn, 1) := by decide +kernel
theorem dL_law_916 : decode cL_law 916 = .ok (.goto 475, 3) := by decide +kernel
theorem dL_law_919 : decode cL_law 919 = .ok (.aload_n 1, 1) := by decide +kernel
theorem dL_law_920 : decode cL_law 920 = .ok (.aload_n 0, 1) := by decide +kernel
theorem dL_law_921 : decode cL_law 921 = .ok (.iload 4, 2) := by decide +kernel
theorem dL_law_923 : decode cL_law 923 = .ok (.iconst 1, 1) := by decide +kernel
theorem dL_law_924 : decode cL_law 924 = .ok (.iadd, 1) := by decide +kernel
theorem dL_law_925 : decode cL_law 925 = .ok (.iaload, 1) := by decide +kernel
theorem dL_law_926 : decode cL_law 926 = .ok (.aload_n 3, 1) := by decide +kernel
theorem dL_law_927 : decode cL_law 927 = .ok (.invokestatic 148, 3) := by decide +kernel
theorem dL_law_930 : decode cL_law 930 = .ok (.istore 5, 2) := by decide +kernel
theorem dL_law_932 : decode cL_law 932 = .ok (.aload_n 2, 1) := by decide +kernel
theorem dL_law_933 : decode cL_law 933 = .ok (.aload_n 0, 1) := by decide +kernel
theorem dL_law_934 : decode cL_law 934 = .ok (.iload 4, 2) := by decide +kernel
theorem dL_law_936 : decode cL_law 936 = .ok (.iconst 1, 1) := by decide +kernel
theorem dL_law_937 : decode cL_law 937 = .ok (.iadd, 1) := by decide +kernel
theorem dL_law_938 : decode cL_law 938 = .ok (.iaload, 1) := by decide +kernel
theorem dL_law_939 : decode cL_law 939 = .ok (.invokevirtual 150, 3) := by decide +kernel
theorem dL_law_942 : decode cL_law 942 = .ok (.istore 6, 2) := by decide +kernel
theorem dL_law_944 : decode cL_law 944 = .ok (.aload_n 2, 1) := by decide +kernel
theorem dL_law_945 : decode cL_law 945 = .ok (.invokevirtual 83, 3) := by decide +kernel
theorem dL_law_948 : decode cL_law 948 = .ok (.iload 5, 2) := by decide +kernel
theorem dL_law_950 : decode cL_law 950 = .ok (.if_icmp .eq 5, 3) := by decide +kernel
theorem dL_law_953 : decode cL_law 953 = .ok (.iconst 0, 1) := by decide +kernel
theorem dL_law_954 : decode cL_law 954 = .ok (.ireturn, 1) := by decide +kernel
theorem dL_law_955 : decode cL_law 955 = .ok (.iload 5, 2) := by decide +kernel
theorem dL_law_957 : decode cL_law 957 = .ok (.ifCond .ne 15, 3) := by decide +kernel
theorem dL_law_960 : decode cL_law 960 = .ok (.aload_n 3, 1) := by decide +kernel
theorem dL_law_961 : decode cL_law 961 = .ok (.iconst 0, 1) := by decide +kernel
theorem dL_law_962 : decode cL_law 962 = .ok (.laload, 1) := by decide +kernel
theorem dL_law_963 : decode cL_law 963 = .ok (.iload 6, 2) := by decide +kernel
theorem dL_law_965 : decode cL_law 965 = .ok (.i2l, 1) := by decide +kernel
theorem dL_law_966 : decode cL_law 966 = .ok (.lcmp, 1) := by decide +kernel
end
section
theorem dL_law_967 : decode cL_law 967 = .ok (.ifCond .eq 5, 3) := by decide +kernel
theorem dL_law_970 : decode cL_law 970 = .ok (.iconst 0, 1) := by decide +kernel
theorem dL_law_971 : decode cL_law 971 = .ok (.ireturn, 1) := by decide +kernel
theorem dL_law_972 : decode cL_law 972 = .ok (.goto 419, 3) := by decide +kernel
theorem dL_law_975 : decode cL_law 975 = .ok (.aload_n 1, 1) := by decide +kernel
theorem dL_law_976 : decode cL_law 976 = .ok (.aload_n 0, 1) := by decide +kernel
theorem dL_law_977 : decode cL_law 977 = .ok (.iload 4, 2) := by decide +kernel
theorem dL_law_979 : decode cL_law 979 = .ok (.iconst 1, 1) := by decide +kernel
theorem dL_law_980 : decode cL_law 980 = .ok (.iadd, 1) := by decide +kernel
theorem dL_law_981 : decode cL_law 981 = .ok (.iaload, 1) := by decide +kernel
theorem dL_law_982 : decode cL_law 982 = .ok (.aload_n 3, 1) := by decide +kernel
theorem dL_law_983 : decode cL_law 983 = .ok (.invokestatic 151, 3) := by decide +kernel
theorem dL_law_986 : decode cL_law 986 = .ok (.istore 5, 2) := by decide +kernel
theorem dL_law_988 : decode cL_law 988 = .ok (.aload_n 2, 1) := by decide +kernel
theorem dL_law_989 : decode cL_law 989 = .ok (.aload_n 0, 1) := by decide +kernel
theorem dL_law_990 : decode cL_law 990 = .ok (.iload 4, 2) := by decide +kernel
theorem dL_law_992 : decode cL_law 992 = .ok (.iconst 1, 1) := by decide +kernel
theorem dL_law_993 : decode cL_law 993 = .ok (.iadd, 1) := by decide +kernel
theorem dL_law_994 : decode cL_law 994 = .ok (.iaload, 1) := by decide +kernel
theorem dL_law_995 : decode cL_law 995 = .ok (.invokevirtual 153, 3) := by decide +kernel
theorem dL_law_998 : decode cL_law 998 = .ok (.istore 6, 2) := by decide +kernel
theorem dL_law_1000 : decode cL_law 1000 = .ok (.aload_n 2, 1) := by decide +kernel
theorem dL_law_1001 : decode cL_law 1001 = .ok (.invokevirtual 83, 3) := by decide +kernel
theorem dL_law_1004 : decode cL_law 1004 = .ok (.iload 5, 2) := by decide +kernel
theorem dL_law_1006 : decode cL_law 1006 = .ok (.if_icmp .eq 5, 3) := by decide +kernel
theorem dL_law_1009 : decode cL_law 1009 = .ok (.iconst 0, 1) := by decide +kernel
theorem dL_law_1010 : decode cL_law 1010 = .ok (.ireturn, 1) := by decide +kernel
theorem dL_law_1011 : decode cL_law 1011 = .ok (.iload 5, 2) := by decide +kernel
theorem dL_law_1013 : decode cL_law 1013 = .ok (.ifCond .ne 15, 3) := by decide +kernel
theorem dL_law_1016 : decode cL_law 1016 = .ok (.aload_n 3, 1) := by decide +kernel
theorem dL_law_1017 : decode cL_law 1017 = .ok (.iconst 0, 1) := by decide +kernel
theorem dL_law_1018 : decode cL_law 1018 = .ok (.laload, 1) := by decide +kernel
theorem dL_law_1019 : decode cL_law 1019 = .ok (.iload 6, 2) := by decide +kernel
theorem dL_law_1021 : decode cL_law 1021 = .ok (.i2l, 1) := by decide +kernel
theorem dL_law_1022 : decode cL_law 1022 = .ok (.lcmp, 1) := by decide +kernel
theorem dL_law_1023 : decode cL_law 1023 = .ok (.ifCond .eq 5, 3) := by decide +kernel
theorem dL_law_1026 : decode cL_law 1026 = .ok (.iconst 0, 1) := by decide +kernel
theorem dL_law_1027 : decode cL_law 1027 = .ok (.ireturn, 1) := by decide +kernel
theorem dL_law_1028 : decode cL_law 1028 = .ok (.goto 363, 3) := by decide +kernel
theorem dL_law_1031 : decode cL_law 1031 = .ok (.aload_n 1, 1) := by decide +kernel
theorem dL_law_1032 : decode cL_law 1032 = .ok (.aload_n 0, 1) := by decide +kernel
theorem dL_law_1033 : decode cL_law 1033 = .ok (.iload 4, 2) := by decide +kernel
theorem dL_law_1035 : decode cL_law 1035 = .ok (.iconst 1, 1) := by decide +kernel
theorem dL_law_1036 : decode cL_law 1036 = .ok (.iadd, 1) := by decide +kernel
theorem dL_law_1037 : decode cL_law 1037 = .ok (.iaload, 1) := by decide +kernel
theorem dL_law_1038 : decode cL_law 1038 = .ok (.aload_n 3, 1) := by decide +kernel
theorem dL_law_1039 : decode cL_law 1039 = .ok (.invokestatic 154, 3) := by decide +kernel
theorem dL_law_1042 : decode cL_law 1042 = .ok (.istore 5, 2) := by decide +kernel
theorem dL_law_1044 : decode cL_law 1044 = .ok (.aload_n 2, 1) := by decide +kernel
theorem dL_law_1045 : decode cL_law 1045 = .ok (.aload_n 0, 1) := by decide +kernel
theorem dL_law_1046 : decode cL_law 1046 = .ok (.iload 4, 2) := by decide +kernel
theorem dL_law_1048 : decode cL_law 1048 = .ok (.iconst 1, 1) := by decide +kernel
theorem dL_law_1049 : decode cL_law 1049 = .ok (.iadd, 1) := by decide +kernel
theorem dL_law_1050 : decode cL_law 1050 = .ok (.iaload, 1) := by decide +kernel
theorem dL_law_1051 : decode cL_law 1051 = .ok (.invokevirtual 156, 3) := by decide +kernel
theorem dL_law_1054 : decode cL_law 1054 = .ok (.istore 6, 2) := by decide +kernel
theorem dL_law_1056 : decode cL_law 1056 = .ok (.aload_n 2, 1) := by decide +kernel
theorem dL_law_1057 : decode cL_law 1057 = .ok (.invokevirtual 83, 3) := by decide +kernel
theorem dL_law_1060 : decode cL_law 1060 = .ok (.iload 5, 2) := by decide +kernel
theorem dL_law_1062 : decode cL_law 1062 = .ok (.if_icmp .eq 5, 3) := by decide +kernel
theorem dL_law_1065 : decode cL_law 1065 = .ok (.iconst 0, 1) := by decide +kernel
theorem dL_law_1066 : decode cL_law 1066 = .ok (.ireturn, 1) := by decide +kernel
theorem dL_law_1067 : decode cL_law 1067 = .ok (.iload 5, 2) := by decide +kernel
theorem dL_law_1069 : decode cL_law 1069 = .ok (.ifCond .ne 15, 3) := by decide +kernel
theorem dL_law_1072 : decode cL_law 1072 = .ok (.aload_n 3, 1) := by decide +kernel
theorem dL_law_1073 : decode cL_law 1073 = .ok (.iconst 0, 1) := by decide +kernel
theorem dL_law_1074 : decode cL_law 1074 = .ok (.laload, 1) := by decide +kernel
theorem dL_law_1075 : decode cL_law 1075 = .ok (.iload 6, 2) := by decide +kernel
theorem dL_law_1077 : decode cL_law 1077 = .ok (.i2l, 1) := by decide +kernel
theorem dL_law_1078 : decode cL_law 1078 = .ok (.lcmp, 1) := by decide +kernel
theorem dL_law_1079 : decode cL_law 1079 = .ok (.ifCond .eq 5, 3) := by decide +kernel
theorem dL_law_1082 : decode cL_law 1082 = .ok (.iconst 0, 1) := by decide +kernel
theorem dL_law_1083 : decode cL_law 1083 = .ok (.ireturn, 1) := by decide +kernel
theorem dL_law_1084 : decode cL_law 1084 = .ok (.goto 307, 3) := by decide +kernel
theorem dL_law_1087 : decode cL_law 1087 = .ok (.aload_n 1, 1) := by decide +kernel
theorem dL_law_1088 : decode cL_law 1088 = .ok (.aload_n 0, 1) := by decide +kernel
theorem dL_law_1089 : decode cL_law 1089 = .ok (.iload 4, 2) := by decide +kernel
theorem dL_law_1091 : decode cL_law 1091 = .ok (.iconst 1, 1) := by decide +kernel
theorem dL_law_1092 : decode cL_law 1092 = .ok (.iadd, 1) := by decide +kernel
theorem dL_law_1093 : decode cL_law 1093 = .ok (.iaload, 1) := by decide +kernel
theorem dL_law_1094 : decode cL_law 1094 = .ok (.aload_n 3, 1) := by decide +kernel
theorem dL_law_1095 : decode cL_law 1095 = .ok (.invokestatic 157, 3) := by decide +kernel
theorem dL_law_1098 : decode cL_law 1098 = .ok (.istore 5, 2) := by decide +kernel
theorem dL_law_1100 : decode cL_law 1100 = .ok (.aload_n 2, 1) := by decide +kernel
theorem dL_law_1101 : decode cL_law 1101 = .ok (.aload_n 0, 1) := by decide +kernel
theorem dL_law_1102 : decode cL_law 1102 = .ok (.iload 4, 2) := by decide +kernel
theorem dL_law_1104 : decode cL_law 1104 = .ok (.iconst 1, 1) := by decide +kernel
theorem dL_law_1105 : decode cL_law 1105 = .ok (.iadd, 1) := by decide +kernel
theorem dL_law_1106 : decode cL_law 1106 = .ok (.iaload, 1) := by decide +kernel
theorem dL_law_1107 : decode cL_law 1107 = .ok (.invokevirtual 159, 3) := by decide +kernel
theorem dL_law_1110 : decode cL_law 1110 = .ok (.istore 6, 2) := by decide +kernel
theorem dL_law_1112 : decode cL_law 1112 = .ok (.aload_n 2, 1) := by decide +kernel
theorem dL_law_1113 : decode cL_law 1113 = .ok (.invokevirtual 83, 3) := by decide +kernel
theorem dL_law_1116 : decode cL_law 1116 = .ok (.iload 5, 2) := by decide +kernel
theorem dL_law_1118 : decode cL_law 1118 = .ok (.if_icmp .eq 5, 3) := by decide +kernel
theorem dL_law_1121 : decode cL_law 1121 = .ok (.iconst 0, 1) := by decide +kernel
theorem dL_law_1122 : decode cL_law 1122 = .ok (.ireturn, 1) := by decide +kernel
theorem dL_law_1123 : decode cL_law 1123 = .ok (.iload 5, 2) := by decide +kernel
theorem dL_law_1125 : decode cL_law 1125 = .ok (.ifCond .ne 15, 3) := by decide +kernel
theorem dL_law_1128 : decode cL_law 1128 = .ok (.aload_n 3, 1) := by decide +kernel
theorem dL_law_1129 : decode cL_law 1129 = .ok (.iconst 0, 1) := by decide +kernel
theorem dL_law_1130 : decode cL_law 1130 = .ok (.laload, 1) := by decide +kernel
theorem dL_law_1131 : decode cL_law 1131 = .ok (.iload 6, 2) := by decide +kernel
theorem dL_law_1133 : decode cL_law 1133 = .ok (.i2l, 1) := by decide +kernel
theorem dL_law_1134 : decode cL_law 1134 = .ok (.lcmp, 1) := by decide +kernel
theorem dL_law_1135 : decode cL_law 1135 = .ok (.ifCond .eq 5, 3) := by decide +kernel
theorem dL_law_1138 : decode cL_law 1138 = .ok (.iconst 0, 1) := by decide +kernel
theorem dL_law_1139 : decode cL_law 1139 = .ok (.ireturn, 1) := by decide +kernel
theorem dL_law_1140 : decode cL_law 1140 = .ok (.goto 251, 3) := by decide +kernel
theorem dL_law_1143 : decode cL_law 1143 = .ok (.aload_n 1, 1) := by decide +kernel
theorem dL_law_1144 : decode cL_law 1144 = .ok (.aload_n 0, 1) := by decide +kernel
theorem dL_law_1145 : decode cL_law 1145 = .ok (.iload 4, 2) := by decide +kernel
theorem dL_law_1147 : decode cL_law 1147 = .ok (.iconst 1, 1) := by decide +kernel
theorem dL_law_1148 : decode cL_law 1148 = .ok (.iadd, 1) := by decide +kernel
theorem dL_law_1149 : decode cL_law 1149 = .ok (.iaload, 1) := by decide +kernel
theorem dL_law_1150 : decode cL_law 1150 = .ok (.aload_n 3, 1) := by decide +kernel
theorem dL_law_1151 : decode cL_law 1151 = .ok (.invokestatic 160, 3) := by decide +kernel
theorem dL_law_1154 : decode cL_law 1154 = .ok (.istore 5, 2) := by decide +kernel
theorem dL_law_1156 : decode cL_law 1156 = .ok (.aload_n 2, 1) := by decide +kernel
theorem dL_law_1157 : decode cL_law 1157 = .ok (.aload_n 0, 1) := by decide +kernel
theorem dL_law_1158 : decode cL_law 1158 = .ok (.iload 4, 2) := by decide +kernel
theorem dL_law_1160 : decode cL_law 1160 = .ok (.iconst 1, 1) := by decide +kernel
theorem dL_law_1161 : decode cL_law 1161 = .ok (.iadd, 1) := by decide +kernel
theorem dL_law_1162 : decode cL_law 1162 = .ok (.iaload, 1) := by decide +kernel
theorem dL_law_1163 : decode cL_law 1163 = .ok (.invokevirtual 162, 3) := by decide +kernel
theorem dL_law_1166 : decode cL_law 1166 = .ok (.istore 6, 2) := by decide +kernel
theorem dL_law_1168 : decode cL_law 1168 = .ok (.aload_n 2, 1) := by decide +kernel
theorem dL_law_1169 : decode cL_law 1169 = .ok (.invokevirtual 83, 3) := by decide +kernel
theorem dL_law_1172 : decode cL_law 1172 = .ok (.iload 5, 2) := by decide +kernel
theorem dL_law_1174 : decode cL_law 1174 = .ok (.if_icmp .eq 5, 3) := by decide +kernel
theorem dL_law_1177 : decode cL_law 1177 = .ok (.iconst 0, 1) := by decide +kernel
theorem dL_law_1178 : decode cL_law 1178 = .ok (.ireturn, 1) := by decide +kernel
theorem dL_law_1179 : decode cL_law 1179 = .ok (.iload 5, 2) := by decide +kernel
theorem dL_law_1181 : decode cL_law 1181 = .ok (.ifCond .ne 15, 3) := by decide +kernel
theorem dL_law_1184 : decode cL_law 1184 = .ok (.aload_n 3, 1) := by decide +kernel
theorem dL_law_1185 : decode cL_law 1185 = .ok (.iconst 0, 1) := by decide +kernel
theorem dL_law_1186 : decode cL_law 1186 = .ok (.laload, 1) := by decide +kernel
theorem dL_law_1187 : decode cL_law 1187 = .ok (.iload 6, 2) := by decide +kernel
theorem dL_law_1189 : decode cL_law 1189 = .ok (.i2l, 1) := by decide +kernel
theorem dL_law_1190 : decode cL_law 1190 = .ok (.lcmp, 1) := by decide +kernel
theorem dL_law_1191 : decode cL_law 1191 = .ok (.ifCond .eq 5, 3) := by decide +kernel
theorem dL_law_1194 : decode cL_law 1194 = .ok (.iconst 0, 1) := by decide +kernel
theorem dL_law_1195 : decode cL_law 1195 = .ok (.ireturn, 1) := by decide +kernel
theorem dL_law_1196 : decode cL_law 1196 = .ok (.goto 195, 3) := by decide +kernel
theorem dL_law_1199 : decode cL_law 1199 = .ok (.aload_n 1, 1) := by decide +kernel
theorem dL_law_1200 : decode cL_law 1200 = .ok (.invokevirtual 163, 3) := by decide +kernel
theorem dL_law_1203 : decode cL_law 1203 = .ok (.aload_n 2, 1) := by decide +kernel
theorem dL_law_1204 : decode cL_law 1204 = .ok (.invokevirtual 166, 3) := by decide +kernel
theorem dL_law_1207 : decode cL_law 1207 = .ok (.if_icmp .eq 184, 3) := by decide +kernel
theorem dL_law_1210 : decode cL_law 1210 = .ok (.iconst 0, 1) := by decide +kernel
theorem dL_law_1211 : decode cL_law 1211 = .ok (.ireturn, 1) := by decide +kernel
theorem dL_law_1212 : decode cL_law 1212 = .ok (.aload_n 1, 1) := by decide +kernel
theorem dL_law_1213 : decode cL_law 1213 = .ok (.aload_n 0, 1) := by decide +kernel
theorem dL_law_1214 : decode cL_law 1214 = .ok (.iload 4, 2) := by decide +kernel
theorem dL_law_1216 : decode cL_law 1216 = .ok (.iconst 1, 1) := by decide +kernel
theorem dL_law_1217 : decode cL_law 1217 = .ok (.iadd, 1) := by decide +kernel
theorem dL_law_1218 : decode cL_law 1218 = .ok (.iaload, 1) := by decide +kernel
theorem dL_law_1219 : decode cL_law 1219 = .ok (.aload_n 0, 1) := by decide +kernel
theorem dL_law_1220 : decode cL_law 1220 = .ok (.iload 4, 2) := by decide +kernel
theorem dL_law_1222 : decode cL_law 1222 = .ok (.iconst 2, 1) := by decide +kernel
theorem dL_law_1223 : decode cL_law 1223 = .ok (.iadd, 1) := by decide +kernel
theorem dL_law_1224 : decode cL_law 1224 = .ok (.iaload, 1) := by decide +kernel
theorem dL_law_1225 : decode cL_law 1225 = .ok (.aload_n 3, 1) := by decide +kernel
theorem dL_law_1226 : decode cL_law 1226 = .ok (.invokestatic 167, 3) := by decide +kernel
theorem dL_law_1229 : decode cL_law 1229 = .ok (.istore 5, 2) := by decide +kernel
theorem dL_law_1231 : decode cL_law 1231 = .ok (.aload_n 2, 1) := by decide +kernel
theorem dL_law_1232 : decode cL_law 1232 = .ok (.aload_n 0, 1) := by decide +kernel
theorem dL_law_1233 : decode cL_law 1233 = .ok (.iload 4, 2) := by decide +kernel
theorem dL_law_1235 : decode cL_law 1235 = .ok (.iconst 1, 1) := by decide +kernel
theorem dL_law_1236 : decode cL_law 1236 = .ok (.iadd, 1) := by decide +kernel
theorem dL_law_1237 : decode cL_law 1237 = .ok (.iaload, 1) := by decide +kernel
theorem dL_law_1238 : decode cL_law 1238 = .ok (.aload_n 0, 1) := by decide +kernel
theorem dL_law_1239 : decode cL_law 1239 = .ok (.iload 4, 2) := by decide +kernel
theorem dL_law_1241 : decode cL_law 1241 = .ok (.iconst 2, 1) := by decide +kernel
theorem dL_law_1242 : decode cL_law 1242 = .ok (.iadd, 1) := by decide +kernel
theorem dL_law_1243 : decode cL_law 1243 = .ok (.iaload, 1) := by decide +kernel
theorem dL_law_1244 : decode cL_law 1244 = .ok (.invokevirtual 169, 3) := by decide +kernel
theorem dL_law_1247 : decode cL_law 1247 = .ok (.istore 6, 2) := by decide +kernel
theorem dL_law_1249 : decode cL_law 1249 = .ok (.aload_n 2, 1) := by decide +kernel
theorem dL_law_1250 : decode cL_law 1250 = .ok (.invokevirtual 83, 3) := by decide +kernel
theorem dL_law_1253 : decode cL_law 1253 = .ok (.iload 5, 2) := by decide +kernel
theorem dL_law_1255 : decode cL_law 1255 = .ok (.if_icmp .eq 5, 3) := by decide +kernel
theorem dL_law_1258 : decode cL_law 1258 = .ok (.iconst 0, 1) := by decide +kernel
theorem dL_law_1259 : decode cL_law 1259 = .ok (.ireturn, 1) := by decide +kernel
theorem dL_law_1260 : decode cL_law 1260 = .ok (.iload 5, 2) := by decide +kernel
theorem dL_law_1262 : decode cL_law 1262 = .ok (.ifCond .ne 15, 3) := by decide +kernel
theorem dL_law_1265 : decode cL_law 1265 = .ok (.aload_n 3, 1) := by decide +kernel
theorem dL_law_1266 : decode cL_law 1266 = .ok (.iconst 0, 1) := by decide +kernel
theorem dL_law_1267 : decode cL_law 1267 = .ok (.laload, 1) := by decide +kernel
theorem dL_law_1268 : decode cL_law 1268 = .ok (.iload 6, 2) := by decide +kernel
theorem dL_law_1270 : decode cL_law 1270 = .ok (.i2l, 1) := by decide +kernel
theorem dL_law_1271 : decode cL_law 1271 = .ok (.lcmp, 1) := by decide +kernel
theorem dL_law_1272 : decode cL_law 1272 = .ok (.ifCond .eq 5, 3) := by decide +kernel
theorem dL_law_1275 : decode cL_law 1275 = .ok (.iconst 0, 1) := by decide +kernel
theorem dL_law_1276 : decode cL_law 1276 = .ok (.ireturn, 1) := by decide +kernel
theorem dL_law_1277 : decode cL_law 1277 = .ok (.goto 114, 3) := by decide +kernel
theorem dL_law_1280 : decode cL_law 1280 = .ok (.aload_n 1, 1) := by decide +kernel
theorem dL_law_1281 : decode cL_law 1281 = .ok (.aload_n 0, 1) := by decide +kernel
theorem dL_law_1282 : decode cL_law 1282 = .ok (.iload 4, 2) := by decide +kernel
theorem dL_law_1284 : decode cL_law 1284 = .ok (.iconst 1, 1) := by decide +kernel
theorem dL_law_1285 : decode cL_law 1285 = .ok (.iadd, 1) := by decide +kernel
theorem dL_law_1286 : decode cL_law 1286 = .ok (.iaload, 1) := by decide +kernel
theorem dL_law_1287 : decode cL_law 1287 = .ok (.aload_n 3, 1) := by decide +kernel
theorem dL_law_1288 : decode cL_law 1288 = .ok (.invokestatic 170, 3) := by decide +kernel
theorem dL_law_1291 : decode cL_law 1291 = .ok (.istore 5, 2) := by decide +kernel
theorem dL_law_1293 : decode cL_law 1293 = .ok (.aload_n 2, 1) := by decide +kernel
theorem dL_law_1294 : decode cL_law 1294 = .ok (.aload_n 0, 1) := by decide +kernel
theorem dL_law_1295 : decode cL_law 1295 = .ok (.iload 4, 2) := by decide +kernel
theorem dL_law_1297 : decode cL_law 1297 = .ok (.iconst 1, 1) := by decide +kernel
theorem dL_law_1298 : decode cL_law 1298 = .ok (.iadd, 1) := by decide +kernel
theorem dL_law_1299 : decode cL_law 1299 = .ok (.iaload, 1) := by decide +kernel
theorem dL_law_1300 : decode cL_law 1300 = .ok (.invokevirtual 172, 3) := by decide +kernel
theorem dL_law_1303 : decode cL_law 1303 = .ok (.istore 6, 2) := by decide +kernel
theorem dL_law_1305 : decode cL_law 1305 = .ok (.aload_n 2, 1) := by decide +kernel
theorem dL_law_1306 : decode cL_law 1306 = .ok (.invokevirtual 83, 3) := by decide +kernel
theorem dL_law_1309 : decode cL_law 1309 = .ok (.iload 5, 2) := by decide +kernel
theorem dL_law_1311 : decode cL_law 1311 = .ok (.if_icmp .eq 5, 3) := by decide +kernel
theorem dL_law_1314 : decode cL_law 1314 = .ok (.iconst 0, 1) := by decide +kernel
theorem dL_law_1315 : decode cL_law 1315 = .ok (.ireturn, 1) := by decide +kernel
theorem dL_law_1316 : decode cL_law 1316 = .ok (.iload 5, 2) := by decide +kernel
theorem dL_law_1318 : decode cL_law 1318 = .ok (.ifCond .ne 15, 3) := by decide +kernel
theorem dL_law_1321 : decode cL_law 1321 = .ok (.aload_n 3, 1) := by decide +kernel
theorem dL_law_1322 : decode cL_law 1322 = .ok (.iconst 0, 1) := by decide +kernel
theorem dL_law_1323 : decode cL_law 1323 = .ok (.laload, 1) := by decide +kernel
theorem dL_law_1324 : decode cL_law 1324 = .ok (.iload 6, 2) := by decide +kernel
theorem dL_law_1326 : decode cL_law 1326 = .ok (.i2l, 1) := by decide +kernel
theorem dL_law_1327 : decode cL_law 1327 = .ok (.lcmp, 1) := by decide +kernel
theorem dL_law_1328 : decode cL_law 1328 = .ok (.ifCond .eq 5, 3) := by decide +kernel
theorem dL_law_1331 : decode cL_law 1331 = .ok (.iconst 0, 1) := by decide +kernel
theorem dL_law_1332 : decode cL_law 1332 = .ok (.ireturn, 1) := by decide +kernel
theorem dL_law_1333 : decode cL_law 1333 = .ok (.goto 58, 3) := by decide +kernel
theorem dL_law_1336 : decode cL_law 1336 = .ok (.aload_n 1, 1) := by decide +kernel
theorem dL_law_1337 : decode cL_law 1337 = .ok (.invokevirtual 173, 3) := by decide +kernel
theorem dL_law_1340 : decode cL_law 1340 = .ok (.dstore 5, 2) := by decide +kernel
theorem dL_law_1342 : decode cL_law 1342 = .ok (.aload_n 2, 1) := by decide +kernel
theorem dL_law_1343 : decode cL_law 1343 = .ok (.invokevirtual 177, 3) := by decide +kernel
theorem dL_law_1346 : decode cL_law 1346 = .ok (.dstore 7, 2) := by decide +kernel
theorem dL_law_1348 : decode cL_law 1348 = .ok (.dload 5, 2) := by decide +kernel
theorem dL_law_1350 : decode cL_law 1350 = .ok (.dload 7, 2) := by decide +kernel
theorem dL_law_1352 : decode cL_law 1352 = .ok (.dcmp .l, 1) := by decide +kernel
theorem dL_law_1353 : decode cL_law 1353 = .ok (.ifCond .eq 21, 3) := by decide +kernel
theorem dL_law_1356 : decode cL_law 1356 = .ok (.dload 5, 2) := by decide +kernel
theorem dL_law_1358 : decode cL_law 1358 = .ok (.dload 5, 2) := by decide +kernel
theorem dL_law_1360 : decode cL_law 1360 = .ok (.dcmp .l, 1) := by decide +kernel
theorem dL_law_1361 : decode cL_law 1361 = .ok (.ifCond .eq 11, 3) := by decide +kernel
theorem dL_law_1364 : decode cL_law 1364 = .ok (.dload 7, 2) := by decide +kernel
theorem dL_law_1366 : decode cL_law 1366 = .ok (.dload 7, 2) := by decide +kernel
theorem dL_law_1368 : decode cL_law 1368 = .ok (.dcmp .l, 1) := by decide +kernel
theorem dL_law_1369 : decode cL_law 1369 = .ok (.ifCond .ne 5, 3) := by decide +kernel
theorem dL_law_1372 : decode cL_law 1372 = .ok (.iconst 0, 1) := by decide +kernel
theorem dL_law_1373 : decode cL_law 1373 = .ok (.ireturn, 1) := by decide +kernel
theorem dL_law_1374 : decode cL_law 1374 = .ok (.goto 17, 3) := by decide +kernel
theorem dL_law_1377 : decode cL_law 1377 = .ok (.aload_n 1, 1) := by decide +kernel
theorem dL_law_1378 : decode cL_law 1378 = .ok (.invokevirtual 178, 3) := by decide +kernel
theorem dL_law_1381 : decode cL_law 1381 = .ok (.aload_n 2, 1) := by decide +kernel
theorem dL_law_1382 : decode cL_law 1382 = .ok (.invokevirtual 182, 3) := by decide +kernel
theorem dL_law_1385 : decode cL_law 1385 = .ok (.lcmp, 1) := by decide +kernel
theorem dL_law_1386 : decode cL_law 1386 = .ok (.ifCond .eq 5, 3) := by decide +kernel
theorem dL_law_1389 : decode cL_law 1389 = .ok (.iconst 0, 1) := by decide +kernel
theorem dL_law_1390 : decode cL_law 1390 = .ok (.ireturn, 1) := by decide +kernel
theorem dL_law_1391 : decode cL_law 1391 = .ok (.iinc 4 5, 3) := by decide +kernel
theorem dL_law_1394 : decode cL_law 1394 = .ok (.goto (-1371), 3) := by decide +kernel
theorem dL_law_1397 : decode cL_law 1397 = .ok (.iconst 1, 1) := by decide +kernel
theorem dL_law_1398 : decode cL_law 1398 = .ok (.ireturn, 1) := by decide +kernel
end
section
/-! ===== BEGIN words of one list among another's, by their places ===== -/
theorem goodIn_r {big : List Cond} (ws : List Cond) (ps : List Nat) (hp : ws = ps.filterMap (fun i => big[i]?)) (h : ws.all goodWord = true) : GoodIn big ws := by
  intro w hw
  have h1 := List.all_eq_true.mp h w hw
  rw [hp] at hw
  obtain ⟨i, -, hi⟩ := List.mem_filterMap.mp hw
  have hm : w ∈ big := by first | exact List.mem_of_getElem? hi | exact List.getElem?_mem hi
  exact ⟨hm, good_of_word h1⟩
theorem goodIn_app {big a b : List Cond} (ha : GoodIn big a) (hb : GoodIn big b) : GoodIn big (a ++ b) := fun w h => (List.mem_append.mp h).elim (ha w) (hb w)
theorem goodIn_ca {big a b : List Cond} {c : Cond} (ha : GoodIn big (c :: a)) (hb : GoodIn big b) : GoodIn big (c :: (a ++ b)) := fun w h => (List.mem_cons.mp h).elim (fun e => ha w (List.mem_cons.mpr (Or.inl e))) (fun h => (List.mem_append.mp h).elim (fun h => ha w (List.mem_cons.mpr (Or.inr h))) (hb w))
theorem goodIn_sub {big ws : List Cond} (hm : ∀ w ∈ ws, w ∈ big) (h : ws.all goodWord = true) : GoodIn big ws := fun w hw => ⟨hm w hw, good_of_word (List.all_eq_true.mp h w hw)⟩
/-! ===== END ===== -/

/-! ===== BEGIN exceptions that leave a method, and their catching by the caller (launches without stack traces) ===== -/
section VXA
/-! The laws vx_back, vx_callV, vx_callS, vx_callSW, vx_throw0, vx_throwS follow proofs of the library, with one case more: JvmDerived/Free/Laws.lean (Back.of_free), Shelf42/LK1.lean (callV, callS), Shelf/KitTraced.lean (throwNew0V, throwNewS). -/
/-- where a method has thrown q: the class by its name, the cell, what was written, the world -/
def vx_T (XC : String → State → State → Prop) (st : State) (q : Addr) (t : State) (mc ms : Nat) (free : Addr → Prop) : Prop :=
  ∃ (E : String) (ce : Cell) (L : List Loc), XC E st t ∧ t.heap[q]? = some ce ∧ ce.vm = .none ∧ st.vm.findClass E = some ce.cls ∧ st.WarmedH t.vm ∧ st.sameButNew ({ t with vm := st.vm } : State) L mc ms ∧ ∀ z ∈ L, free z.base
def vx_Q (Qc : Array Value → State → Outcome → State → Prop) (XC : String → State → State → Prop) (mc ms : Nat) (free : Addr → Prop) : Array Value → State → Outcome → State → Prop := fun a st o t =>
  (Qc a st o t ∧ ∃ L, FrameEnd st o t L mc ms ∧ ∀ q ∈ L, free q.base) ∨ ∃ q, o = .threw q ∧ vx_T XC st q t mc ms free
/-- a callee that returns or throws -/
def vx_Met (l : Launch) (y : MethodName) (ws : List Cond) (rm : Room) (Pc : Array Value → State → Prop) (Qc : Array Value → State → Outcome → State → Prop) (XC : String → State → State → Prop) (mc ms : Nat) (free : Addr → Prop) : Prop :=
  MetFree l y (headSpec ws rm) Pc (fun _ _ _ _ _ => True) (vx_Q Qc XC mc ms free)
def vx_Post (XC : String → State → State → Prop) (mc ms : Nat) (free : Addr → Prop) : Pt → Array Value → Addr → Pt → Prop := fun A a q B =>
  ∃ (g : JFrame) (mk : MethodId) (t : State) (L : List Loc) (E : String) (ce : Cell), B.U.heap = t.heap ∧ B.U.vm = t.vm ∧ XC E (A.U.calling g mk a) t ∧ t.heap[q]? = some ce ∧ ce.vm = .none ∧ A.U.vm.findClass E = some ce.cls ∧ B.locs = A.locs ++ L ∧ (∀ z ∈ L, free z.base) ∧ B.cells = A.cells + mc ∧ B.slots = A.slots + ms
def vx_Back (l : Launch) (R : Room) (p : Program) (e : Env) (below : List Frame) (s : State) (sargs : Array Value) (y : MethodName) (len W9 : Nat)
    (Pre : Pt → Array Value → Prop) (Post : Pt → Array Value → Option Value → Pt → Prop) (PostX : Pt → Array Value → Addr → Pt → Prop) : Prop :=
  ∀ (m : MethodId) (meth : Method) (c : Code) (A : Pt) (g : JFrame) (ig : Instr) (mk : MethodId) (a : Array Value),
    Stand p l e R s m sargs below meth c A.U A.locs A.cells A.slots → g.method = m → g.locals.size = c.maxLocals → decode c.code g.pc = .ok (ig, len) →
    2 * g.monitorRoom + (g.stack.map fun v => v.category).sum ≤ W9 → A.U.methodNamed? y = some mk → Pre A a →
    (∃ (v : Option Value) (B : Pt), Stand p l e R s m sargs below meth c B.U B.locs B.cells B.slots ∧ Post A a v B ∧
      Steps p.tables e below (doInvoke e (A.U.setTop g) [] mk a).1 (B.U.setTop { g with pc := g.pc + len, stack := v.toList ++ g.stack })) ∨
    (∃ (q : Addr) (B : Pt), Stand p l e R s m sargs below meth c B.U B.locs B.cells B.slots ∧ PostX A a q B ∧
      Steps p.tables e below (doInvoke e (A.U.setTop g) [] mk a).1 ((B.U.setTop g).pushFrame (.throwing q)))
section Payer
variable {l : Launch} {R : Room} {p : Program} {e : Env} {below : List Frame} {s : State} {sargs : Array Value} {y : MethodName} {len W9 : Nat}
theorem vx_back {ws : List Cond} {rm : Room} {Pc : Array Value → State → Prop} {Qc : Array Value → State → Outcome → State → Prop} {XC : String → State → State → Prop} {mc ms : Nat} {free : Addr → Prop} {bytes : ByteArray} {maxL : Nat} {ret : Option FieldType}
    (hM : vx_Met l y ws rm Pc Qc XC mc ms free) (hblind : FrameBlind Pc) (hrc : rm.cells = mc) (hrs : rm.slots = ms)
    (hframes : rm.frames + 1 ≤ R.frames) (hlocals : W9 + (maxL + 11) + rm.locals ≤ R.locals)
    (hws : ∀ w ∈ ws, ∀ a' U, s.WarmedH U.vm → w.before a' U = true) (hcode : Cond.code y bytes maxL ret ∈ ws) (hinit : ∀ a' U, s.WarmedH U.vm → (Cond.initialized y.cls).before a' U = true) :
    vx_Back l R p e below s sargs y len W9 (PreOf R mc ms Pc) (PostOf Qc mc ms free) (vx_Post XC mc ms free) := by
  intro m meth c A g ig mk a X hg hsize hdg hW hn hp
  have h1 : (headSpec ws rm).pre.before a A.U = true := atoms_intro fun w hw => hws w hw _ _ X.warmed
  have h2 : (Cond.code y bytes maxL ret).before a A.U = true := hws _ hcode _ _ X.warmed
  have h3 : (Cond.initialized y.cls).before a A.U = true := hinit _ _ X.warmed
  have h4 : A.cells + (headSpec ws rm).room.cells ≤ R.cells := by rw [show (headSpec ws rm).room.cells = mc from hrc]; exact hp.1
  have h5 : A.slots + (headSpec ws rm).room.slots ≤ R.slots := by rw [show (headSpec ws rm).room.slots = ms from hrs]; exact hp.2.1
  have hPc : Pc a (A.U.calling g mk a) := hblind _ _ _ _ hp.2.2
  obtain ⟨U, Ls, c0, s0⟩ := A
  dsimp only [Pt.U, Pt.locs, Pt.cells, Pt.slots] at h1 h2 h3 h4 h5 X hn hPc ⊢
  obtain ⟨methY, cY, hmY, hcY, -, hlY, -, -, -, -⟩ := Cond.code_spec hn h2
  obtain ⟨kY, hkY, -⟩ := className_of_methodNamed hn
  have hinitY : kY.init = .initialized := Cond.initialized_spec (findClass_of_methodNamed hn) hkY h3
  have h : At U g.method c below := by rw [hg]; exact X.here
  have hlocals9 : W9 + (maxL + 11) + (headSpec ws rm).room.locals ≤ R.locals := hlocals
  have happ : (headSpec ws rm).appliesLoose y e.platform (U.calling g mk a) = true :=
    Spec.appliesLoose_calling (g := g) h hdg hn hkY hinitY
      (X.room_calling (g := g) (R' := (headSpec ws rm).room) hsize hmY hcY hframes (by rw [hlY]; omega) h4 h5) h1
  obtain ⟨mid, hmid⟩ := h.above
  have hfr : (U.setTop g).frames = (.java g :: mid) ++ below := by rw [State.frames_setTop' g h.top, hmid]; rfl
  obtain ⟨o, s₂, hsteps, -, hend, hq⟩ := Steps.callFree hM p X.admits X.cas X.clock (acts := []) hfr happ hPc trivial
  have hq' : vx_Q Qc XC mc ms free a (U.calling g mk a) o s₂ := hq
  rw [State.frames_setTop' g h.top] at hend
  obtain ⟨g₀, hg0⟩ := Option.isSome_iff_exists.mp h.top
  obtain ⟨r, hr⟩ := State.topJava?_eq_some.mp hg0
  have hr' : (({ U with heap := s₂.heap, slotsUsed := s₂.slotsUsed } : State).setVm s₂.vm).frames = .java g₀ :: r := hr
  rcases hq' with ⟨hqc, L, hfe, hL⟩ | ⟨q, rfl, E, ce, L, hx, hce, hcv, hcl, hW₂, hsm, hL⟩
  · obtain ⟨⟨v, rfl⟩, hW₂, e2, q2, q3, q4, q5, q6⟩ := id hfe
    have e3 : s₂ = ({ (U.calling g mk a).setFrames s₂.frames with heap := s₂.heap, slotsUsed := s₂.slotsUsed } : State).setVm s₂.vm := by
      have : s₂ = ({ s₂ with vm := (U.calling g mk a).vm } : State).setVm s₂.vm := rfl
      rw [e2] at this
      exact this
    obtain ⟨c₂, i₂, len₂, hc₂, hd₂, hf₂⟩ := hend
    have hW' : U.WarmedH s₂.vm := hW₂
    have hcc : c₂ = c := by
      have h1 : s₂.code? g.method = U.code? g.method := by
        rw [State.code?_eq, State.code?_eq, hW'.alike.method?]
      exact Option.some.inj (hc₂.symm.trans (h1.trans h.code))
    subst hcc
    have hlen : len₂ = len := by rw [hdg] at hd₂; cases hd₂; rfl
    subst hlen
    have hs₂ : s₂ = (({ U with heap := s₂.heap, slotsUsed := s₂.slotsUsed } : State).setVm s₂.vm).setTop { g with pc := g.pc + len₂, stack := v.toList ++ g.stack } := by
      refine e3.trans ?_
      rw [hf₂, State.calling_eq h.top, State.setFrames_setFrames, State.setTop_of_frames _ hr', hr]
      rfl
    have hsame : U.sameButNew ({ U with heap := s₂.heap, slotsUsed := s₂.slotsUsed } : State) L mc ms := by
      refine ⟨?_, q2, q3, q4, q5, q6⟩
      obtain ⟨t, ht, -⟩ := State.frames_cons hr
      show ({ U with heap := s₂.heap, slotsUsed := s₂.slotsUsed } : State) = { U.setFrames U.frames with heap := s₂.heap, slotsUsed := s₂.slotsUsed }
      rw [State.setFrames_self ht]
    subst hg
    refine Or.inl ⟨v, ⟨(({ U with heap := s₂.heap, slotsUsed := s₂.slotsUsed } : State).setVm s₂.vm), Ls ++ L, c0 + mc, s0 + ms⟩,
      ⟨X.admits, X.cas, X.clock, X.frames, X.room, X.hears, X.method, X.code, (X.here.setHeapUsed s₂.heap s₂.slotsUsed).setVm hW'.alike, X.tail, State.WarmedH.trans X.warmed hW', X.limits, X.bytes, X.same.trans (hsame.setVm s.vm)⟩,
      ⟨g, mk, s₂, L, rfl, rfl, hqc, rfl, hL, rfl, rfl⟩, ?_⟩
    show Steps p.tables e below _ ((({ U with heap := s₂.heap, slotsUsed := s₂.slotsUsed } : State).setVm s₂.vm).setTop { g with pc := g.pc + len₂, stack := v.toList ++ g.stack })
    rw [← hs₂]
    exact hsteps
  · obtain ⟨e2, q2, q3, q4, q5, q6⟩ := id hsm
    have e3 : s₂ = ({ (U.calling g mk a).setFrames s₂.frames with heap := s₂.heap, slotsUsed := s₂.slotsUsed } : State).setVm s₂.vm := by
      have : s₂ = ({ s₂ with vm := (U.calling g mk a).vm } : State).setVm s₂.vm := rfl
      rw [e2] at this
      exact this
    have hf₂ : s₂.frames = .throwing q :: .java g :: U.frames.tail := hend
    have hW' : U.WarmedH s₂.vm := hW₂
    have hs₂ : s₂ = ((({ U with heap := s₂.heap, slotsUsed := s₂.slotsUsed } : State).setVm s₂.vm).setTop g).pushFrame (.throwing q) := by
      refine e3.trans ?_
      rw [hf₂, State.calling_eq h.top, State.setFrames_setFrames, State.pushFrame, State.frames_setTop _ hr', State.setTop_of_frames _ hr', State.setFrames_setFrames, hr]
      rfl
    have hsame : U.sameButNew ({ U with heap := s₂.heap, slotsUsed := s₂.slotsUsed } : State) L mc ms := by
      refine ⟨?_, q2, q3, q4, q5, q6⟩
      obtain ⟨t, ht, -⟩ := State.frames_cons hr
      show ({ U with heap := s₂.heap, slotsUsed := s₂.slotsUsed } : State) = { U.setFrames U.frames with heap := s₂.heap, slotsUsed := s₂.slotsUsed }
      rw [State.setFrames_self ht]
    subst hg
    refine Or.inr ⟨q, ⟨(({ U with heap := s₂.heap, slotsUsed := s₂.slotsUsed } : State).setVm s₂.vm), Ls ++ L, c0 + mc, s0 + ms⟩,
      ⟨X.admits, X.cas, X.clock, X.frames, X.room, X.hears, X.method, X.code, (X.here.setHeapUsed s₂.heap s₂.slotsUsed).setVm hW'.alike, X.tail, State.WarmedH.trans X.warmed hW', X.limits, X.bytes, X.same.trans (hsame.setVm s.vm)⟩,
      ⟨g, mk, s₂, L, E, ce, rfl, rfl, hx, hce, hcv, hcl, rfl, hL, rfl, rfl⟩, ?_⟩
    show Steps p.tables e below _ (((({ U with heap := s₂.heap, slotsUsed := s₂.slotsUsed } : State).setVm s₂.vm).setTop g).pushFrame (.throwing q))
    rw [← hs₂]
    exact hsteps
end Payer
section Calls
variable {p : Program} {l : Launch} {e : Env} {R : Room} {s : State} {m : MethodId} {args : Array Value} {below : List Frame} {meth : Method} {c : Code} {T : State} {locs : List Loc} {cells slots : Nat}
theorem vx_callV (X : Stand p l e R s m args below meth c T locs cells slots) (hexec : p.tables.exec = Jvm.exec) {own C : String} {index : Nat} {y : MethodName} {bytes : ByteArray} {maxL : Nat} {ret : Option FieldType}
    (hown : s.vm.findClass own = some m.cls) (hlink : (Cond.methodLink own index y).before args s = true) (hinst : (Cond.instanceMethod y).before args s = true) (hsel : (Cond.selects C y y).before args s = true)
    (hcode : (Cond.code y bytes maxL ret).before args s = true) (hy : y.cls ≠ "java/lang/invoke/MethodHandle" ∧ y.cls ≠ "java/lang/invoke/VarHandle")
    {W9 : Nat} {Pre : Pt → Array Value → Prop} {Post : Pt → Array Value → Option Value → Pt → Prop} {PostX : Pt → Array Value → Addr → Pt → Prop} (hK : vx_Back l R p e below s args y 3 W9 Pre Post PostX)
    {b : Addr} {cellB : Cell} (hcell : T.heap[b]? = some cellB) (hobj : cellB.vm.isStatics = false) (hcls : s.vm.findClass C = some cellB.cls)
    {g : JFrame} (hg : g.method = m) (hsize : g.locals.size = c.maxLocals) {argsL rest : List Value} (hlen : ∀ sig, parseMethodDescriptor y.desc = some sig → argsL.length = sig.parameters.length)
    (hstack : g.stack = argsL.reverse ++ .ref b :: rest) (hW : 2 * g.monitorRoom + (rest.map fun v => v.category).sum ≤ W9) (hdg : decode c.code g.pc = .ok (.invokevirtual index, 3))
    (hpre : ∀ vm₁, s.WarmedH vm₁ → Pre ⟨T.setVm vm₁, locs, cells, slots⟩ (Value.ref b :: argsL).toArray) :
    (∃ (v : Option Value) (vm₁ : Vm) (B : Pt), s.WarmedH vm₁ ∧ Stand p l e R s m args below meth c B.U B.locs B.cells B.slots ∧ Post ⟨T.setVm vm₁, locs, cells, slots⟩ (Value.ref b :: argsL).toArray v B ∧
      ∀ target, Steps p.tables e below (B.U.setTop { g with pc := g.pc + 3, stack := v.toList ++ rest }) target → Steps p.tables e below (T.setTop g) target) ∨
    (∃ (q : Addr) (vm₁ : Vm) (B : Pt), s.WarmedH vm₁ ∧ Stand p l e R s m args below meth c B.U B.locs B.cells B.slots ∧ PostX ⟨T.setVm vm₁, locs, cells, slots⟩ (Value.ref b :: argsL).toArray q B ∧
      Steps p.tables e below (T.setTop g) ((B.U.setTop { g with stack := rest }).pushFrame (.throwing q))) := by
  obtain ⟨mk, methM, hnamed, hmethM, hstM, habM⟩ := Cond.instanceMethod_spec hinst
  obtain ⟨methM', cM, hmethM', -, -, -, -, -, -, hsigM⟩ := Cond.code_spec hnamed hcode
  cases hmethM.symm.trans hmethM'
  obtain ⟨c2, r2, m2, q1, q2, q3, q4, kP, hkP, hkPi⟩ := Cond.selects_spec hsel
  cases hcls.symm.trans q1
  cases (State.methodFound?_of_named hnamed hy).symm.trans q2
  cases hnamed.symm.trans q3
  have hselP : selectMethod e.platform s.vm cellB.cls mk = .method mk := by rw [Launch.admits_selectMethod X.admits]; exact q4
  obtain ⟨vm₁, X₁, hstep₁⟩ := X.invokevirtual hexec hown hlink hnamed hmethM hstM hkP hkPi hy (a := b) (cell := cellB) hcell
    (fun z h => by rw [h] at hobj; cases hobj) hselP hmethM habM hkP hkPi (g := g) hg (argsL := argsL) (rest := rest) (hlen _ hsigM) hstack hdg
  rcases hK m meth c ⟨T.setVm vm₁, locs, cells, slots⟩ { g with stack := rest } (.invokevirtual index) mk (Value.ref b :: argsL).toArray X₁ hg hsize hdg hW (X₁.named hnamed) (hpre vm₁ X₁.warmed) with ⟨v, B, X', hpost, hsteps⟩ | ⟨q, B, X', hpost, hsteps⟩
  · exact Or.inl ⟨v, vm₁, B, X₁.warmed, X', hpost, fun target h => hstep₁ _ fun acts => by rw [doInvoke_state]; exact hsteps.trans h⟩
  · exact Or.inr ⟨q, vm₁, B, X₁.warmed, X', hpost, hstep₁ _ fun acts => by rw [doInvoke_state]; exact hsteps⟩
theorem vx_callS (X : Stand p l e R s m args below meth c T locs cells slots) (hexec : p.tables.exec = Jvm.exec) {own : String} {index : Nat} {y : MethodName} {bytes : ByteArray} {maxL : Nat} {ret : Option FieldType}
    (hown : s.vm.findClass own = some m.cls) (hlink : (Cond.methodLink own index y).before args s = true) (hstat : (Cond.static y).before args s = true) (hinit : (Cond.initialized y.cls).before args s = true)
    (hcode : (Cond.code y bytes maxL ret).before args s = true) (hy : y.cls ≠ "java/lang/invoke/MethodHandle" ∧ y.cls ≠ "java/lang/invoke/VarHandle")
    {W9 : Nat} {Pre : Pt → Array Value → Prop} {Post : Pt → Array Value → Option Value → Pt → Prop} {PostX : Pt → Array Value → Addr → Pt → Prop} (hK : vx_Back l R p e below s args y 3 W9 Pre Post PostX)
    {g : JFrame} (hg : g.method = m) (hsize : g.locals.size = c.maxLocals) {argsL rest : List Value} (hlen : ∀ sig, parseMethodDescriptor y.desc = some sig → argsL.length = sig.parameters.length)
    (hstack : g.stack = argsL.reverse ++ rest) (hW : 2 * g.monitorRoom + (rest.map fun v => v.category).sum ≤ W9) (hdg : decode c.code g.pc = .ok (.invokestatic index, 3))
    (hpre : ∀ vm₁, s.WarmedH vm₁ → Pre ⟨T.setVm vm₁, locs, cells, slots⟩ argsL.toArray) :
    (∃ (v : Option Value) (vm₁ : Vm) (B : Pt), s.WarmedH vm₁ ∧ Stand p l e R s m args below meth c B.U B.locs B.cells B.slots ∧ Post ⟨T.setVm vm₁, locs, cells, slots⟩ argsL.toArray v B ∧
      ∀ target, Steps p.tables e below (B.U.setTop { g with pc := g.pc + 3, stack := v.toList ++ rest }) target → Steps p.tables e below (T.setTop g) target) ∨
    (∃ (q : Addr) (vm₁ : Vm) (B : Pt), s.WarmedH vm₁ ∧ Stand p l e R s m args below meth c B.U B.locs B.cells B.slots ∧ PostX ⟨T.setVm vm₁, locs, cells, slots⟩ argsL.toArray q B ∧
      Steps p.tables e below (T.setTop g) ((B.U.setTop { g with stack := rest }).pushFrame (.throwing q))) := by
  obtain ⟨mk, hnamed⟩ := Cond.code_named hcode
  obtain ⟨methM, cM, hmethM, -, -, -, -, -, -, hsigM⟩ := Cond.code_spec hnamed hcode
  have hstatic : methM.isStatic = true := Cond.static_spec hnamed hmethM hstat
  obtain ⟨kP, hkP, -⟩ := className_of_methodNamed hnamed
  have hinitP : kP.init = .initialized := Cond.initialized_spec (findClass_of_methodNamed hnamed) hkP hinit
  obtain ⟨vm₁, X₁, hstep₁⟩ := X.invokestatic hexec hown hlink hnamed hmethM hstatic hkP hinitP hy (g := g) hg (argsL := argsL) (rest := rest) (hlen _ hsigM) hstack hdg
  rcases hK m meth c ⟨T.setVm vm₁, locs, cells, slots⟩ { g with stack := rest } (.invokestatic index) mk argsL.toArray X₁ hg hsize hdg hW (X₁.named hnamed) (hpre vm₁ X₁.warmed) with ⟨v, B, X', hpost, hsteps⟩ | ⟨q, B, X', hpost, hsteps⟩
  · exact Or.inl ⟨v, vm₁, B, X₁.warmed, X', hpost, fun target h => hstep₁ _ fun acts => by rw [doInvoke_state]; exact hsteps.trans h⟩
  · exact Or.inr ⟨q, vm₁, B, X₁.warmed, X', hpost, hstep₁ _ fun acts => by rw [doInvoke_state]; exact hsteps⟩
end Calls
theorem vx_cls {s : State} {T : State} {vm₁ : Vm} {E : String} {k : ClassId} (hW : s.WarmedH vm₁) (h : (T.setVm vm₁).vm.findClass E = some k) : s.vm.findClass E = some k := by
  have h1 : vm₁.findClass E = some k := h
  rw [hW.alike.findClass] at h1
  exact h1
/-- the method's frame g, with q thrown over it -/
def vx_W (p : Program) (l : Launch) (e : Env) (R : Room) (s : State) (m : MethodId) (args : Array Value) (below : List Frame) (meth : Method) (c : Code) (H : Heap) (locs : List Loc) (cells slots : Nat) (Q : State → Prop) (g : JFrame) (q : Addr) : Prop :=
  ∀ T : State, T.heap = H → Stand p l e R s m args below meth c T locs cells slots → ∃ t, Steps p.tables e below ((T.setTop g).pushFrame (.throwing q)) t ∧ Q t
def vx_Run (p : Program) (l : Launch) (e : Env) (R : Room) (s : State) (m : MethodId) (args : Array Value) (below : List Frame) (meth : Method) (c : Code) (H : Heap) (locs : List Loc) (cells slots mc ms : Nat) (g : JFrame) (rest : List Value) (Qa : State → Outcome → State → Prop) (XC : String → State → State → Prop) (free : Addr → Prop) : Prop :=
  ∀ T : State, T.heap = H → Stand p l e R s m args below meth c T locs cells slots →
    (∃ (v : Option Value) (st₀ t T' : State) (L : List Loc), st₀.heap = H ∧ Stand p l e R s m args below meth c T' (locs ++ L) (cells + mc) (slots + ms) ∧ (∀ q ∈ L, free q.base) ∧ T'.heap = t.heap ∧ T'.vm = t.vm ∧ Qa st₀ (.returned v) t ∧
      Goes p e below T g T' { g with pc := g.pc + 3, stack := v.toList ++ rest }) ∨
    (∃ (q : Addr) (st₀ t T' : State) (L : List Loc) (E : String) (ce : Cell), st₀.heap = H ∧ Stand p l e R s m args below meth c T' (locs ++ L) (cells + mc) (slots + ms) ∧ (∀ z ∈ L, free z.base) ∧ T'.heap = t.heap ∧ T'.vm = t.vm ∧ XC E st₀ t ∧ t.heap[q]? = some ce ∧ ce.vm = .none ∧ s.vm.findClass E = some ce.cls ∧
      Steps p.tables e below (T.setTop g) ((T'.setTop { g with stack := rest }).pushFrame (.throwing q)))
def vx_X {S : Type} (px : S → Prop) (B : String → S → State → Prop) (A : Nat → Prop) : String → State → State → Prop := fun E st t => ∃ u : S, px u ∧ B E u t ∧ va_F A st t
section Runs
variable {p : Program} {l : Launch} {e : Env} {R : Room} {s : State} {m : MethodId} {args : Array Value} {below : List Frame} {meth : Method} {c : Code} {H : Heap} {locs : List Loc} {cells slots : Nat}
variable {y : MethodName} {bytes cc : ByteArray} {maxL nL mc ms n index : Nat} {ret : Option FieldType} {ws : List Cond} {rm : Room} {Pc : Array Value → State → Prop} {Qc : Array Value → State → Outcome → State → Prop} {XC : String → State → State → Prop} {free : Addr → Prop} {Ts : List Cond} {own C : String} {b : Addr} {As rest : List Value} {g : JFrame}
theorem vx_callBack (cb : CallB R s args own index y bytes maxL ret ws rm mc ms n) (hM : vx_Met l y ws rm Pc Qc XC mc ms free) (hbl : FrameBlind Pc) : vx_Back l R p e below s args y 3 8 (PreOf R mc ms Pc) (PostOf Qc mc ms free) (vx_Post XC mc ms free) := by
  obtain ⟨hrc, hrs, hfr, hlo, hws, hcw, -, hini, -⟩ := cb
  exact vx_back (bytes := bytes) (maxL := maxL) (ret := ret) hM hbl hrc hrs hfr hlo hws hcw (fun a' U hW => word_at hW (Or.inl (by first | rfl | simp [Cond.onTables, Cond.keeps, Cond.steady])) hini)
theorem vx_runV (S : CallFix p m c cc nL s args Ts own) (hM : vx_Met l y ws rm Pc Qc XC mc ms free) (cw : CallW R s args own C index y bytes maxL ret ws rm mc ms n) (hp : PreV s H C b Pc As)
    (hg : g.method = m) (hn : As.length = n) (hsize : g.locals.size = nL) (hstack : g.stack = As.reverse ++ .ref b :: rest) (hW : 2 * g.monitorRoom + (rest.map fun v => v.category).sum ≤ 8) (hdg : decode cc g.pc = .ok (.invokevirtual index, 3)) (hf : cells + mc ≤ R.cells ∧ slots + ms ≤ R.slots) :
    vx_Run p l e R s m args below meth c H locs cells slots mc ms g rest (Qc (Value.ref b :: As).toArray) XC free := by
  have hK : vx_Back l R p e below s args y 3 8 (PreOf R mc ms Pc) (PostOf Qc mc ms free) (vx_Post XC mc ms free) := vx_callBack cw.1 hM hp.1
  obtain ⟨⟨-, -, -, -, -, -, hcode, -, hy, hlen, hl⟩, hin, hse⟩ := cw
  obtain ⟨hx, hb, hml, ho, -⟩ := S
  obtain ⟨-, ⟨cellB, hcB, hoB, hclB⟩, hPc⟩ := hp
  intro T hT X
  rcases vx_callV X hx (C := C) (bytes := bytes) (maxL := maxL) (ret := ret) ho hl hin hse hcode hy hK (by rw [hT]; exact hcB) hoB hclB hg (hsize.trans hml.symm) (argsL := As) (rest := rest) (fun sig h => hn.trans (hlen sig h)) hstack hW (by rw [hb]; exact hdg)
    (fun vm₁ hW₁ => ⟨hf.1, hf.2, hPc (T.setVm vm₁) hT hW₁⟩) with ⟨v, vm₁, ⟨U', l2, c2, s2⟩, hW₁, X', ⟨g', mk, t, L, e1, e2, hq, h1, hL, h2, h3⟩, st⟩ | ⟨q, vm₁, ⟨U', l2, c2, s2⟩, hW₁, X', ⟨g', mk, t, L, E, ce, e1, e2, hq, hce, hcv, hcl, h1, hL, h2, h3⟩, st⟩
  · dsimp only [Pt.U, Pt.locs, Pt.cells, Pt.slots] at X' e1 e2 h1 h2 h3 st
    subst h1; subst h2; subst h3
    exact Or.inl ⟨v, (T.setVm vm₁).calling g' mk (Value.ref b :: As).toArray, t, U', L, hT, X', hL, e1, e2, hq, st⟩
  · dsimp only [Pt.U, Pt.locs, Pt.cells, Pt.slots] at X' e1 e2 h1 h2 h3 st hcl
    subst h1; subst h2; subst h3
    exact Or.inr ⟨q, (T.setVm vm₁).calling g' mk (Value.ref b :: As).toArray, t, U', L, E, ce, hT, X', hL, e1, e2, hq, hce, hcv, vx_cls hW₁ hcl, st⟩
theorem vx_runS (S : CallFix p m c cc nL s args Ts own) (hM : vx_Met l y ws rm Pc Qc XC mc ms free) (cw : CallB R s args own index y bytes maxL ret ws rm mc ms n ∧ (Cond.static y).before args s = true) (hp : PreS s H Pc As)
    (hg : g.method = m) (hn : As.length = n) (hsize : g.locals.size = nL) (hstack : g.stack = As.reverse ++ rest) (hW : 2 * g.monitorRoom + (rest.map fun v => v.category).sum ≤ 8) (hdg : decode cc g.pc = .ok (.invokestatic index, 3)) (hf : cells + mc ≤ R.cells ∧ slots + ms ≤ R.slots) :
    vx_Run p l e R s m args below meth c H locs cells slots mc ms g rest (Qc As.toArray) XC free := by
  have hK : vx_Back l R p e below s args y 3 8 (PreOf R mc ms Pc) (PostOf Qc mc ms free) (vx_Post XC mc ms free) := vx_callBack cw.1 hM hp.1
  obtain ⟨⟨-, -, -, -, -, -, hcode, hini, hy, hlen, hl⟩, hstt⟩ := cw
  obtain ⟨hx, hb, hml, ho, -⟩ := S
  intro T hT X
  rcases vx_callS X hx (bytes := bytes) (maxL := maxL) (ret := ret) ho hl hstt hini hcode hy hK hg (hsize.trans hml.symm) (argsL := As) (rest := rest) (fun sig h => hn.trans (hlen sig h)) hstack hW (by rw [hb]; exact hdg)
    (fun vm₁ hW₁ => ⟨hf.1, hf.2, hp.2 (T.setVm vm₁) hT hW₁⟩) with ⟨v, vm₁, ⟨U', l2, c2, s2⟩, hW₁, X', ⟨g', mk, t, L, e1, e2, hq, h1, hL, h2, h3⟩, st⟩ | ⟨q, vm₁, ⟨U', l2, c2, s2⟩, hW₁, X', ⟨g', mk, t, L, E, ce, e1, e2, hq, hce, hcv, hcl, h1, hL, h2, h3⟩, st⟩
  · dsimp only [Pt.U, Pt.locs, Pt.cells, Pt.slots] at X' e1 e2 h1 h2 h3 st
    subst h1; subst h2; subst h3
    exact Or.inl ⟨v, (T.setVm vm₁).calling g' mk As.toArray, t, U', L, hT, X', hL, e1, e2, hq, st⟩
  · dsimp only [Pt.U, Pt.locs, Pt.cells, Pt.slots] at X' e1 e2 h1 h2 h3 st hcl
    subst h1; subst h2; subst h3
    exact Or.inr ⟨q, (T.setVm vm₁).calling g' mk As.toArray, t, U', L, E, ce, hT, X', hL, e1, e2, hq, hce, hcv, vx_cls hW₁ hcl, st⟩
end Runs
section Rows
variable {p : Program} {l : Launch} {e : Env} {R : Room} {s : State} {m : MethodId} {args : Array Value} {below : List Frame} {meth : Method} {c : Code} {H : Heap} {locs : List Loc} {cells slots : Nat} {Q : State → Prop}
variable {mc ms : Nat} {free : Addr → Prop} {A0 A1 : Nat → Prop} {H0 : Heap} {a : Array Value} {pc : Nat} {ls : Array Slot} {st0 rest : List Value}
theorem vx_keep {st₀ t T' : State} {L : List Loc} (h0 : st₀.heap = H) (e1 : T'.heap = t.heap) (hS : va_S A0 H0 H locs) (hA : ∀ q, q < H.size → A1 q → A0 q) (hf : ∀ q, free q → A0 q) (hL : ∀ q ∈ L, free q.base) (hF : va_F A1 st₀ t) :
    H.size ≤ T'.heap.size ∧ (∀ q : Nat, q < H.size → ¬ A1 q → T'.heap[q]? = H[q]?) ∧ va_S A0 H0 T'.heap (locs ++ L) := by
  obtain ⟨hz, hk⟩ := hF
  rw [h0] at hz hk
  exact ⟨by rw [e1]; exact hz, fun q h1 h2 => by rw [e1]; exact hk q h1 h2,
    ⟨Nat.le_trans hS.1 (by rw [e1]; exact hz), fun q h1 h2 => by rw [e1, hk q (Nat.lt_of_lt_of_le h1 hS.1) (fun z => h2 (hA q (Nat.lt_of_lt_of_le h1 hS.1) z))]; exact hS.2.1 q h1 h2, fun q hq => by
      rcases List.mem_append.mp hq with h | h
      · exact hS.2.2 q h
      · exact hf _ (hL q h)⟩⟩
theorem vx_calli {S SX : Type} {post : Int32 → S → Prop} {px : SX → Prop} {B : S → State → Prop} {BX : String → SX → State → Prop} {AX : Nat → Prop} (hr : vx_Run p l e R s m args below meth c H locs cells slots mc ms (F0 m pc ls st0) rest (va_Qi post B A1 a) (vx_X px BX AX) free) (hS : va_S A0 H0 H locs) (hA : ∀ q, q < H.size → A1 q → A0 q) (hf : ∀ q, free q → A0 q) (hAX : ∀ q, q < H.size → AX q → A0 q)
    (kx : ∀ (E : String) (ce : Cell) (q9 : Addr) (u : SX) (t : State) (H1 : Heap) (locs1 : List Loc), t.heap = H1 → s.vm.Alike t.vm → px u → BX E u t → H.size ≤ H1.size → (∀ q : Nat, q < H.size → ¬ AX q → H1[q]? = H[q]?) → va_S A0 H0 H1 locs1 → H1[q9]? = some ce → ce.vm = .none → s.vm.findClass E = some ce.cls → vx_W p l e R s m args below meth c H1 locs1 (cells + mc) (slots + ms) Q (F0 m pc ls rest) q9)
    (kk : ∀ (r : Int32) (u : S) (t : State) (H1 : Heap) (locs1 : List Loc), t.heap = H1 → s.vm.Alike t.vm → post r u → B u t → H.size ≤ H1.size → (∀ q : Nat, q < H.size → ¬ A1 q → H1[q]? = H[q]?) → va_S A0 H0 H1 locs1 → W p l e R s m args below meth c H1 locs1 (cells + mc) (slots + ms) Q (F0 m (pc + 3) ls (.int r :: rest))) : W p l e R s m args below meth c H locs cells slots Q (F0 m pc ls st0) := by
  intro T hT X
  rcases hr T hT X with ⟨v, st₀, t, T', L, h0, X', hL, e1, e2, ⟨⟨r, u, hv, hp, hb⟩, hF⟩, st⟩ | ⟨q, st₀, t, T', L, E, ce, h0, X', hL, e1, e2, ⟨u, hp, hb, hF⟩, hce, hcv, hcl, st⟩
  · cases hv
    obtain ⟨k1, k2, k3⟩ := vx_keep h0 e1 hS hA hf hL hF
    obtain ⟨t2, a1, b1⟩ := kk r u t T'.heap (locs ++ L) e1.symm (by rw [← e2]; exact X'.warmed.alike) hp hb k1 k2 k3 T' rfl X'
    exact ⟨t2, st t2 a1, b1⟩
  · obtain ⟨k1, k2, k3⟩ := vx_keep h0 e1 hS hAX hf hL hF
    obtain ⟨t2, a1, b1⟩ := kx E ce q u t T'.heap (locs ++ L) e1.symm (by rw [← e2]; exact X'.warmed.alike) hp hb k1 k2 k3 (by rw [e1]; exact hce) hcv hcl T' rfl X'
    exact ⟨t2, st.trans a1, b1⟩
theorem vx_calll {S SX : Type} {post : Int64 → S → Prop} {px : SX → Prop} {B : S → State → Prop} {BX : String → SX → State → Prop} {AX : Nat → Prop} (hr : vx_Run p l e R s m args below meth c H locs cells slots mc ms (F0 m pc ls st0) rest (va_Ql post B A1 a) (vx_X px BX AX) free) (hS : va_S A0 H0 H locs) (hA : ∀ q, q < H.size → A1 q → A0 q) (hf : ∀ q, free q → A0 q) (hAX : ∀ q, q < H.size → AX q → A0 q)
    (kx : ∀ (E : String) (ce : Cell) (q9 : Addr) (u : SX) (t : State) (H1 : Heap) (locs1 : List Loc), t.heap = H1 → s.vm.Alike t.vm → px u → BX E u t → H.size ≤ H1.size → (∀ q : Nat, q < H.size → ¬ AX q → H1[q]? = H[q]?) → va_S A0 H0 H1 locs1 → H1[q9]? = some ce → ce.vm = .none → s.vm.findClass E = some ce.cls → vx_W p l e R s m args below meth c H1 locs1 (cells + mc) (slots + ms) Q (F0 m pc ls rest) q9)
    (kk : ∀ (r : Int64) (u : S) (t : State) (H1 : Heap) (locs1 : List Loc), t.heap = H1 → s.vm.Alike t.vm → post r u → B u t → H.size ≤ H1.size → (∀ q : Nat, q < H.size → ¬ A1 q → H1[q]? = H[q]?) → va_S A0 H0 H1 locs1 → W p l e R s m args below meth c H1 locs1 (cells + mc) (slots + ms) Q (F0 m (pc + 3) ls (.long r :: rest))) : W p l e R s m args below meth c H locs cells slots Q (F0 m pc ls st0) := by
  intro T hT X
  rcases hr T hT X with ⟨v, st₀, t, T', L, h0, X', hL, e1, e2, ⟨⟨r, u, hv, hp, hb⟩, hF⟩, st⟩ | ⟨q, st₀, t, T', L, E, ce, h0, X', hL, e1, e2, ⟨u, hp, hb, hF⟩, hce, hcv, hcl, st⟩
  · cases hv
    obtain ⟨k1, k2, k3⟩ := vx_keep h0 e1 hS hA hf hL hF
    obtain ⟨t2, a1, b1⟩ := kk r u t T'.heap (locs ++ L) e1.symm (by rw [← e2]; exact X'.warmed.alike) hp hb k1 k2 k3 T' rfl X'
    exact ⟨t2, st t2 a1, b1⟩
  · obtain ⟨k1, k2, k3⟩ := vx_keep h0 e1 hS hAX hf hL hF
    obtain ⟨t2, a1, b1⟩ := kx E ce q u t T'.heap (locs ++ L) e1.symm (by rw [← e2]; exact X'.warmed.alike) hp hb k1 k2 k3 (by rw [e1]; exact hce) hcv hcl T' rfl X'
    exact ⟨t2, st.trans a1, b1⟩
theorem vx_callf {S SX : Type} {post : UInt32 → S → Prop} {px : SX → Prop} {B : S → State → Prop} {BX : String → SX → State → Prop} {AX : Nat → Prop} (hr : vx_Run p l e R s m args below meth c H locs cells slots mc ms (F0 m pc ls st0) rest (va_Qf post B A1 a) (vx_X px BX AX) free) (hS : va_S A0 H0 H locs) (hA : ∀ q, q < H.size → A1 q → A0 q) (hf : ∀ q, free q → A0 q) (hAX : ∀ q, q < H.size → AX q → A0 q)
    (kx : ∀ (E : String) (ce : Cell) (q9 : Addr) (u : SX) (t : State) (H1 : Heap) (locs1 : List Loc), t.heap = H1 → s.vm.Alike t.vm → px u → BX E u t → H.size ≤ H1.size → (∀ q : Nat, q < H.size → ¬ AX q → H1[q]? = H[q]?) → va_S A0 H0 H1 locs1 → H1[q9]? = some ce → ce.vm = .none → s.vm.findClass E = some ce.cls → vx_W p l e R s m args below meth c H1 locs1 (cells + mc) (slots + ms) Q (F0 m pc ls rest) q9)
    (kk : ∀ (r : UInt32) (u : S) (t : State) (H1 : Heap) (locs1 : List Loc), t.heap = H1 → s.vm.Alike t.vm → post r u → B u t → H.size ≤ H1.size → (∀ q : Nat, q < H.size → ¬ A1 q → H1[q]? = H[q]?) → va_S A0 H0 H1 locs1 → W p l e R s m args below meth c H1 locs1 (cells + mc) (slots + ms) Q (F0 m (pc + 3) ls (.float r :: rest))) : W p l e R s m args below meth c H locs cells slots Q (F0 m pc ls st0) := by
  intro T hT X
  rcases hr T hT X with ⟨v, st₀, t, T', L, h0, X', hL, e1, e2, ⟨⟨r, u, hv, hp, hb⟩, hF⟩, st⟩ | ⟨q, st₀, t, T', L, E, ce, h0, X', hL, e1, e2, ⟨u, hp, hb, hF⟩, hce, hcv, hcl, st⟩
  · cases hv
    obtain ⟨k1, k2, k3⟩ := vx_keep h0 e1 hS hA hf hL hF
    obtain ⟨t2, a1, b1⟩ := kk r u t T'.heap (locs ++ L) e1.symm (by rw [← e2]; exact X'.warmed.alike) hp hb k1 k2 k3 T' rfl X'
    exact ⟨t2, st t2 a1, b1⟩
  · obtain ⟨k1, k2, k3⟩ := vx_keep h0 e1 hS hAX hf hL hF
    obtain ⟨t2, a1, b1⟩ := kx E ce q u t T'.heap (locs ++ L) e1.symm (by rw [← e2]; exact X'.warmed.alike) hp hb k1 k2 k3 (by rw [e1]; exact hce) hcv hcl T' rfl X'
    exact ⟨t2, st.trans a1, b1⟩
theorem vx_calld {S SX : Type} {post : UInt64 → S → Prop} {px : SX → Prop} {B : S → State → Prop} {BX : String → SX → State → Prop} {AX : Nat → Prop} (hr : vx_Run p l e R s m args below meth c H locs cells slots mc ms (F0 m pc ls st0) rest (va_Qd post B A1 a) (vx_X px BX AX) free) (hS : va_S A0 H0 H locs) (hA : ∀ q, q < H.size → A1 q → A0 q) (hf : ∀ q, free q → A0 q) (hAX : ∀ q, q < H.size → AX q → A0 q)
    (kx : ∀ (E : String) (ce : Cell) (q9 : Addr) (u : SX) (t : State) (H1 : Heap) (locs1 : List Loc), t.heap = H1 → s.vm.Alike t.vm → px u → BX E u t → H.size ≤ H1.size → (∀ q : Nat, q < H.size → ¬ AX q → H1[q]? = H[q]?) → va_S A0 H0 H1 locs1 → H1[q9]? = some ce → ce.vm = .none → s.vm.findClass E = some ce.cls → vx_W p l e R s m args below meth c H1 locs1 (cells + mc) (slots + ms) Q (F0 m pc ls rest) q9)
    (kk : ∀ (r : UInt64) (u : S) (t : State) (H1 : Heap) (locs1 : List Loc), t.heap = H1 → s.vm.Alike t.vm → post r u → B u t → H.size ≤ H1.size → (∀ q : Nat, q < H.size → ¬ A1 q → H1[q]? = H[q]?) → va_S A0 H0 H1 locs1 → W p l e R s m args below meth c H1 locs1 (cells + mc) (slots + ms) Q (F0 m (pc + 3) ls (.double r :: rest))) : W p l e R s m args below meth c H locs cells slots Q (F0 m pc ls st0) := by
  intro T hT X
  rcases hr T hT X with ⟨v, st₀, t, T', L, h0, X', hL, e1, e2, ⟨⟨r, u, hv, hp, hb⟩, hF⟩, st⟩ | ⟨q, st₀, t, T', L, E, ce, h0, X', hL, e1, e2, ⟨u, hp, hb, hF⟩, hce, hcv, hcl, st⟩
  · cases hv
    obtain ⟨k1, k2, k3⟩ := vx_keep h0 e1 hS hA hf hL hF
    obtain ⟨t2, a1, b1⟩ := kk r u t T'.heap (locs ++ L) e1.symm (by rw [← e2]; exact X'.warmed.alike) hp hb k1 k2 k3 T' rfl X'
    exact ⟨t2, st t2 a1, b1⟩
  · obtain ⟨k1, k2, k3⟩ := vx_keep h0 e1 hS hAX hf hL hF
    obtain ⟨t2, a1, b1⟩ := kx E ce q u t T'.heap (locs ++ L) e1.symm (by rw [← e2]; exact X'.warmed.alike) hp hb k1 k2 k3 (by rw [e1]; exact hce) hcv hcl T' rfl X'
    exact ⟨t2, st.trans a1, b1⟩
theorem vx_callv {S SX : Type} {post : S → Prop} {px : SX → Prop} {B : S → State → Prop} {BX : String → SX → State → Prop} {AX : Nat → Prop} (hr : vx_Run p l e R s m args below meth c H locs cells slots mc ms (F0 m pc ls st0) rest (va_Qv post B A1 a) (vx_X px BX AX) free) (hS : va_S A0 H0 H locs) (hA : ∀ q, q < H.size → A1 q → A0 q) (hf : ∀ q, free q → A0 q) (hAX : ∀ q, q < H.size → AX q → A0 q)
    (kx : ∀ (E : String) (ce : Cell) (q9 : Addr) (u : SX) (t : State) (H1 : Heap) (locs1 : List Loc), t.heap = H1 → s.vm.Alike t.vm → px u → BX E u t → H.size ≤ H1.size → (∀ q : Nat, q < H.size → ¬ AX q → H1[q]? = H[q]?) → va_S A0 H0 H1 locs1 → H1[q9]? = some ce → ce.vm = .none → s.vm.findClass E = some ce.cls → vx_W p l e R s m args below meth c H1 locs1 (cells + mc) (slots + ms) Q (F0 m pc ls rest) q9)
    (kk : ∀ (u : S) (t : State) (H1 : Heap) (locs1 : List Loc), t.heap = H1 → s.vm.Alike t.vm → post u → B u t → H.size ≤ H1.size → (∀ q : Nat, q < H.size → ¬ A1 q → H1[q]? = H[q]?) → va_S A0 H0 H1 locs1 → W p l e R s m args below meth c H1 locs1 (cells + mc) (slots + ms) Q (F0 m (pc + 3) ls (rest))) : W p l e R s m args below meth c H locs cells slots Q (F0 m pc ls st0) := by
  intro T hT X
  rcases hr T hT X with ⟨v, st₀, t, T', L, h0, X', hL, e1, e2, ⟨⟨u, hv, hp, hb⟩, hF⟩, st⟩ | ⟨q, st₀, t, T', L, E, ce, h0, X', hL, e1, e2, ⟨u, hp, hb, hF⟩, hce, hcv, hcl, st⟩
  · cases hv
    obtain ⟨k1, k2, k3⟩ := vx_keep h0 e1 hS hA hf hL hF
    obtain ⟨t2, a1, b1⟩ := kk u t T'.heap (locs ++ L) e1.symm (by rw [← e2]; exact X'.warmed.alike) hp hb k1 k2 k3 T' rfl X'
    exact ⟨t2, st t2 a1, b1⟩
  · obtain ⟨k1, k2, k3⟩ := vx_keep h0 e1 hS hAX hf hL hF
    obtain ⟨t2, a1, b1⟩ := kx E ce q u t T'.heap (locs ++ L) e1.symm (by rw [← e2]; exact X'.warmed.alike) hp hb k1 k2 k3 (by rw [e1]; exact hce) hcv hcl T' rfl X'
    exact ⟨t2, st.trans a1, b1⟩
/-- caught by the row x of this method's table; the rows ahead don't take it -/
theorem vx_catch {own name : String} {E : String} {ce : Cell} {q : Addr} (hown : s.vm.findClass own = some m.cls) (pre : List ExceptionTableEntry) (x : ExceptionTableEntry) (suf : List ExceptionTableEntry) (hsplit : c.exceptionTable.toList = pre ++ x :: suf)
    (hpass : ∀ z ∈ pre, covers z pc = false ∨ (z.catchType ≠ 0 ∧ ∃ nm : String, (Cond.classLink own z.catchType nm).before args s = true ∧ va_Nc E nm s)) (hx : covers x pc = true) (h0 : x.catchType ≠ 0)
    (hlink : (Cond.classLink own x.catchType name).before args s = true) (hcast : (Cond.castable E name).before args s = true) (hcell : H[q]? = some ce) (hv : ce.vm = .none) (hcl : s.vm.findClass E = some ce.cls)
    (kk : W p l e R s m args below meth c H locs cells slots Q (F0 m x.handlerPc ls [.ref q])) : vx_W p l e R s m args below meth c H locs cells slots Q (F0 m pc ls rest) q := by
  intro T hT X
  have hpl : e.platform.magicAccessors = ({} : Platform).magicAccessors := by rw [X.admits.platform]
  obtain ⟨c3, c4, hc3, hc4, hasg⟩ := Cond.castable_spec hcast
  cases Option.some.inj (hc3.symm.trans hcl)
  obtain ⟨c5, hc5, hcl5⟩ := Cond.classLink_spec hown hlink e.platform hpl
  cases Option.some.inj (hc4.symm.trans hc5)
  obtain ⟨vm', X', st⟩ := X.thenCaughtThrough q (g := F0 m pc ls rest) rfl (Steps.refl _) (by rw [hT]; exact hcell) (by rw [hv]; rfl) (by obtain ⟨k9, h9, -⟩ := Vm.findClass_spec hcl; exact ⟨k9, h9⟩) pre x suf hsplit
    (fun z hz => by
      rcases hpass z hz with h | ⟨hz0, nm, hl1, hn1⟩
      · exact Or.inl h
      · obtain ⟨c6, hc6, hcl6⟩ := Cond.classLink_spec hown hl1 e.platform hpl
        obtain ⟨a8, b8, h1, h2, h3⟩ := hn1
        cases Option.some.inj (h1.symm.trans hcl)
        cases Option.some.inj (h2.symm.trans hc6)
        exact Or.inr ⟨hz0, _, hcl6, h3⟩) hx (Or.inr ⟨h0, c4, hcl5, hasg⟩)
  obtain ⟨t, a1, b1⟩ := kk (T.setVm vm') hT X'
  exact ⟨t, st.trans a1, b1⟩
end Rows
section Ends
variable {p : Program} {l : Launch} {e : Env} {R : Room} {s : State} {m : MethodId} {args : Array Value} {below : List Frame} {meth : Method} {c : Code} {H : Heap} {locs : List Loc} {cells slots : Nat} {Q : State → Prop}
variable {mc ms : Nat} {free : Addr → Prop} {A0 A1 : Nat → Prop} {H0 : Heap} {a : Array Value} {ls : Array Slot} {st0 rest : List Value}
variable {Qc : Array Value → State → Outcome → State → Prop} {XC : String → State → State → Prop}
/-- what a body that may throw owes at its end -/
def vx_MQ (below : List Frame) (Qc : Array Value → State → Outcome → State → Prop) (XC : String → State → State → Prop) (a : Array Value) (s : State) (mc ms : Nat) (free : Addr → Prop) : State → Prop := fun t =>
  ∃ o, t.status = .running ∧ Ended t below o ∧ vx_Q Qc XC mc ms free a s o t
theorem vx_ret {g : JFrame} {mc ms : Nat} (k : W p l e R s m args below meth c H locs cells slots (MQ below Qc args s mc ms free) g) : W p l e R s m args below meth c H locs cells slots (vx_MQ below Qc XC args s mc ms free) g := by
  intro T hT X
  obtain ⟨t, a1, o, b1, b2, b3, b4⟩ := k T hT X
  exact ⟨t, a1, o, b1, b2, Or.inl ⟨b3, b4⟩⟩
/-- not caught here: it goes on to the caller -/
theorem vx_widen {g : JFrame} {q : Addr} {k n : Nat} (h1 : cells ≤ k) (h2 : slots ≤ n) (kk : vx_W p l e R s m args below meth c H locs k n Q g q) : vx_W p l e R s m args below meth c H locs cells slots Q g q := fun T hT X => kk T hT (stand_widen X h1 h2)
theorem vx_out {pc : Nat} {E : String} {ce : Cell} {q : Addr} {mc ms : Nat} (hout : ∀ x ∈ c.exceptionTable.toList, covers x pc = false) (hlocks : meth.locks = false) (hcell : H[q]? = some ce) (hv : ce.vm = .none) (hcl : s.vm.findClass E = some ce.cls)
    (hx : ∀ t : State, t.heap = H → s.vm.Alike t.vm → XC E s t) (hf : ∀ z ∈ locs, free z.base) (hc : cells ≤ mc) (hs : slots ≤ ms) :
    vx_W p l e R s m args below meth c H locs cells slots (vx_MQ below Qc XC args s mc ms free) (F0 m pc ls rest) q := by
  intro T hT X
  obtain ⟨st1, hrun, hend, hW, hsm⟩ := X.leaveThrown q (g := F0 m pc ls rest) rfl rfl rfl hout hlocks
  have hcell9 : (T.setFrames (.throwing q :: below)).heap[q]? = some ce := by
    show T.heap[q]? = some ce
    rw [hT]; exact hcell
  exact ⟨_, st1, .threw q, hrun, hend, Or.inr ⟨q, rfl, E, ce, locs, hx _ hT hW.alike, hcell9, hv, hcl, hW, hsm.mono hc hs, hf⟩⟩
theorem vx_frame {U : State} {k n : Nat} (h : s.sameButNew ({ U with vm := s.vm } : State) locs k n) : s.heap.size ≤ U.heap.size ∧ ∀ q : Nat, q < s.heap.size → (∀ z ∈ locs, z.base ≠ q) → U.heap[q]? = s.heap[q]? := by
  obtain ⟨-, h2, -, -, -, h6⟩ := h
  refine ⟨h2, fun q hq hz => ?_⟩
  obtain ⟨c9, e1, e2, e3, e4⟩ := h6 q _ (Array.getElem?_eq_getElem hq)
  have hs : c9.slots = (s.heap[q]).slots := Array.ext_getElem? fun i => e4 i fun hm => hz _ hm rfl
  have h9 : c9 = s.heap[q] := by
    rw [hs] at e2
    exact e2
  have e5 : U.heap[q]? = some c9 := e1
  rw [e5, h9, Array.getElem?_eq_getElem hq]
/-- the words of a throw but the four that speak of the heap -/
def vx_no (w : Cond) : Bool := decide (w ≠ .isRef (.static Bundle.tN "UNASSIGNED_STACK" Bundle.steD)) && decide (w ≠ .isRef (.static Bundle.tN "SUPPRESSED_SENTINEL" Bundle.listD)) && decide (w ≠ .laysStatic Bundle.tN "UNASSIGNED_STACK" Bundle.steD) && decide (w ≠ .laysStatic Bundle.tN "SUPPRESSED_SENTINEL" Bundle.listD)
def vx_at0 (own : String) (ic : Nat) (X : String) (names : List String) : List Cond := (Bundle.ownAtoms0 own ic X names).filter vx_no
def vx_atS (own : String) (ic : Nat) (X : String) (names : List String) : List Cond := (Bundle.ownAtoms own ic X names).filter vx_no
/-- a word that the tables alone decide, or a good one -/
def vx_ot (w : Cond) : Bool := w.onTables || goodWord w
theorem vx_ot_at {args a' : Array Value} {s U : State} {w : Cond} (hW : s.WarmedH U.vm) (hvm : s.vm = U.vm) (hg : vx_ot w = true) (h : w.before args s = true) : w.before a' U = true := by
  simp only [vx_ot, Bool.or_eq_true] at hg
  rcases hg with hg | hg
  · exact va_tabs hg hvm h
  · exact word_at hW (good_of_word hg) h
/-- a list's words: the good ones out of the method's own list, the others by premises of their own -/
theorem vx_hat {args : Array Value} {s : State} {L B : List Cond} (h1 : ∀ w ∈ L.filter goodWord, w.before args s = true) (h2 : ∀ w ∈ L.filter (fun w => !goodWord w), w ∈ B) (h3 : ∀ w ∈ B, w.before args s = true) : ∀ w ∈ L, w.before args s = true := by
  intro w hw
  by_cases g : goodWord w = true
  · exact h1 w (List.mem_filter.mpr ⟨hw, g⟩)
  · refine h3 w (h2 w (List.mem_filter.mpr ⟨hw, ?_⟩))
    show (!goodWord w) = true
    cases hgw : goodWord w
    · rfl
    · exact absurd hgw g
theorem vx_c {args : Array Value} {s : State} {w : Cond} {B : List Cond} (h : w.before args s = true) (t : ∀ w ∈ B, w.before args s = true) : ∀ w' ∈ w :: B, w'.before args s = true := fun w' h' => (List.mem_cons.mp h').elim (fun e => by rw [e]; exact h) (t w')
theorem vx_n {args : Array Value} {s : State} : ∀ w ∈ ([] : List Cond), w.before args s = true := fun _ h => nomatch h
theorem vx_own {args : Array Value} {s : State} {L : List Cond} (h1 : ∀ w ∈ L.filter vx_no, w.before args s = true)
    (hU : (Cond.isRef (.static Bundle.tN "UNASSIGNED_STACK" Bundle.steD)).before args s = true) (hN : (Cond.isRef (.static Bundle.tN "SUPPRESSED_SENTINEL" Bundle.listD)).before args s = true)
    (lU : (Cond.laysStatic Bundle.tN "UNASSIGNED_STACK" Bundle.steD).before args s = true) (lN : (Cond.laysStatic Bundle.tN "SUPPRESSED_SENTINEL" Bundle.listD).before args s = true) : ∀ w ∈ L, w.before args s = true := by
  intro w hw
  by_cases e1 : w = .isRef (.static Bundle.tN "UNASSIGNED_STACK" Bundle.steD)
  · rw [e1]; exact hU
  · by_cases e2 : w = .isRef (.static Bundle.tN "SUPPRESSED_SENTINEL" Bundle.listD)
    · rw [e2]; exact hN
    · by_cases e3 : w = .laysStatic Bundle.tN "UNASSIGNED_STACK" Bundle.steD
      · rw [e3]; exact lU
      · by_cases e4 : w = .laysStatic Bundle.tN "SUPPRESSED_SENTINEL" Bundle.listD
        · rw [e4]; exact lN
        · exact h1 w (List.mem_filter.mpr ⟨hw, by unfold vx_no; rw [decide_eq_true e1, decide_eq_true e2, decide_eq_true e3, decide_eq_true e4]; rfl⟩)
/-- where a static field lies, its class's statics cell in H -/
def vx_L (C n d : String) (A : Nat → Prop) (U : State) (H : Heap) : Prop := ∃ (c : ClassId) (k : Class) (i : Nat) (f : Field) (a : Nat) (cell : Cell), U.vm.findClass C = some c ∧ U.fieldFound? C n d = some (c, k, i, f) ∧ f.isStatic = true ∧ k.statics = some a ∧ H[a]? = some cell ∧ cell.vm.isStatics = true ∧ cell.cls = c ∧ f.slot < cell.slots.size ∧ k.staticTypes[f.slot]? = some f.type ∧ ¬ A a
theorem vx_L.moved {C n d : String} {A : Nat → Prop} {u U : State} {H : Heap} (hvm : u.vm.Alike U.vm) (h : vx_L C n d A u H) : vx_L C n d A U H := by
  obtain ⟨c, k, i, f, a, cell, h1, h2, h3, h4, h5, h6, h7, h8, h9, h10⟩ := h
  obtain ⟨k', hi', he⟩ := State.fieldFound?_setVm hvm h2
  exact ⟨c, k', i, f, a, cell, by rw [hvm.findClass]; exact h1, hi', h3, by rw [he]; exact h4, h5, h6, h7, h8, by rw [he]; exact h9, h10⟩
theorem vx_L.kept {C n d : String} {A : Nat → Prop} {U : State} {H H1 : Heap} (h : vx_L C n d A U H) (hq : ∀ a : Nat, a < H.size → ¬ A a → H1[a]? = H[a]?) : vx_L C n d A U H1 := by
  obtain ⟨c, k, i, f, a, cell, h1, h2, h3, h4, h5, h6, h7, h8, h9, h10⟩ := h
  exact ⟨c, k, i, f, a, cell, h1, h2, h3, h4, by rw [hq a (Array.getElem?_eq_some_iff.mp h5).1 h10]; exact h5, h6, h7, h8, h9, h10⟩
theorem vx_L.narrow {C n d : String} {A B : Nat → Prop} {U : State} {H : Heap} (h : vx_L C n d A U H) (hAB : ∀ q, B q → A q) : vx_L C n d B U H := by
  obtain ⟨c, k, i, f, a, cell, h1, h2, h3, h4, h5, h6, h7, h8, h9, h10⟩ := h
  exact ⟨c, k, i, f, a, cell, h1, h2, h3, h4, h5, h6, h7, h8, h9, fun z => h10 (hAB _ z)⟩
theorem vx_L.word {C n d : String} {A : Nat → Prop} {s : State} {args : Array Value} (h : vx_L C n d A s s.heap) : (Cond.laysStatic C n d).before args s = true := by
  obtain ⟨c, k, i, f, a, cell, h1, h2, h3, h4, h5, h6, h7, h8, h9, -⟩ := h
  show (Cond.laysStatic C n d).holds args s none s [] = true
  exact Cond.laysStatic_of h1 h2 h3 h4 h5 h6 h7 h8 h9
/-- .. and what it holds: null or some reference -/
def vx_Zq (C n d : String) (A : Nat → Prop) (U : State) (H : Heap) : Prop := va_Zq C n d A U H ∧ vx_L C n d A U H
theorem vx_Zq.moved {C n d : String} {A : Nat → Prop} {u U : State} {H : Heap} (hvm : u.vm.Alike U.vm) (h : vx_Zq C n d A u H) : vx_Zq C n d A U H := ⟨va_Zq.moved hvm h.1, vx_L.moved hvm h.2⟩
theorem vx_Zq.kept {C n d : String} {A : Nat → Prop} {U : State} {H H1 : Heap} (h : vx_Zq C n d A U H) (hq : ∀ a : Nat, a < H.size → ¬ A a → H1[a]? = H[a]?) : vx_Zq C n d A U H1 := ⟨va_Zq.kept h.1 hq, vx_L.kept h.2 hq⟩
theorem vx_Zq.narrow {C n d : String} {A B : Nat → Prop} {U : State} {H : Heap} (h : vx_Zq C n d A U H) (hAB : ∀ q, B q → A q) : vx_Zq C n d B U H := ⟨va_Zq.narrow h.1 hAB, vx_L.narrow h.2 hAB⟩
theorem vx_Zqof {args : Array Value} {s : State} {C n d : String} {A : Nat → Prop} (hl : (Cond.laysStatic C n d).before args s = true) (hini : (Cond.initialized C).before args s = true) (h : (Cond.isRef (.static C n d)).before args s = true) (hA : ∀ a : Nat, a < s.heap.size → ¬ A a) : vx_Zq C n d A s s.heap := by
  refine ⟨va_Zqof hl hini h hA, ?_⟩
  obtain ⟨c, k, i, f, a, cell, h1, h2, h3, h4, h5, h6, h7, h8, h9⟩ := Cond.laysStatic_spec hl
  exact ⟨c, k, i, f, a, cell, h1, h2, h3, h4, h5, h6, h7, h8, h9, hA a (Array.getElem?_eq_some_iff.mp h5).1⟩
theorem vx_isRef {C n d : String} {v : Value} {A : Nat → Prop} {s : State} {args : Array Value} (h : va_Z C n d v A s s.heap) (hv : v.isRef = true) : (Cond.isRef (.static C n d)).before args s = true := by
  obtain ⟨cf, kf, fi, f, a, cell, h1, h2, h3, h4, h5, h6, h7, -⟩ := h
  have he : (Term.static C n d).eval args s none [] s = some v := by
    simp [Term.eval, State.fieldNamed?, h1, h2, h4, h5, h6, h7]
  simp only [Cond.before, Cond.holds, Cond.value, he]
  cases v <;> simp_all [Value.isRef]
theorem vx_isRefq {C n d : String} {A : Nat → Prop} {s : State} {args : Array Value} (h : va_Zq C n d A s s.heap) : (Cond.isRef (.static C n d)).before args s = true := by
  rcases h with h | ⟨t, h⟩
  · exact vx_isRef h rfl
  · exact vx_isRef h rfl
/-- the same frame, seen from here: as if the method were called anew in this heap -/
theorem vx_rebase {T : State} (X : Stand p l e R s m args below meth c T locs cells slots) {R' : Room} (hf : R'.frames ≤ R.frames) (hl : R'.locals ≤ R.locals) (hc : cells + R'.cells ≤ R.cells) (hs : slots + R'.slots ≤ R.slots) :
    Stand p l e R' ((T.setVm s.vm).setFrames (.invoking m args :: below)) m args below meth c T [] 0 0 := by
  have htop : (T.setVm s.vm).topJava?.isSome := X.here.top
  have hF : ((T.setVm s.vm).setFrames (.invoking m args :: below)).frames = .invoking m args :: below := State.frames_setFrames _ (State.cur_lt_of_top htop)
  obtain ⟨g₀, hg0⟩ := Option.isSome_iff_exists.mp htop
  obtain ⟨r, hr⟩ := State.topJava?_eq_some.mp hg0
  have hl9 : e.platform.stackLimits (T.setVm s.vm).me = e.platform.stackLimits s.me := X.limits
  have hb9 : (T.setVm s.vm).me.stackBytes = s.me.stackBytes := X.bytes
  refine ⟨X.admits, X.cas, X.clock, hF, ?_, X.hears, X.method, X.code, X.here, X.tail, X.warmed, ?_, ?_, ?_⟩
  · have h := X.room
    have hU : ((T.setVm s.vm).setFrames (.invoking m args :: below)).localsInUse = s.localsInUse := by
      rw [State.localsInUse_invoking hF (meth := meth) (c := c) X.method X.code, State.localsInUse_invoking X.frames X.method X.code]
    simp only [State.hasRoom, Bool.and_eq_true, decide_eq_true_eq] at h ⊢
    obtain ⟨⟨⟨⟨h1, h2, h3, h4, h5, h6⟩, h7⟩, h8⟩, h9⟩ := h
    rw [X.frames, List.length_cons] at h2 h3
    have q1 := X.heapSize
    have q2 := X.used
    simp only [hF, hU, List.length_cons, State.stackLimits_setFrames, State.stackBytes_setFrames, hl9, hb9]
    refine ⟨⟨⟨⟨by omega, by omega, by omega, by omega, by omega, h6⟩, ?_⟩, ?_⟩, X.book⟩
    · show T.heap.size + R'.cells ≤ e.platform.maxCells
      omega
    · show T.slotsUsed + R'.slots ≤ e.platform.maxSlots
      omega
  · rw [State.stackLimits_setFrames]; rfl
  · rw [State.stackBytes_setFrames]; rfl
  · refine ⟨?_, Nat.le_refl _, Nat.le_refl _, ?_, ?_, fun a c9 h9 => ⟨c9, h9, rfl, rfl, fun _ _ => rfl⟩⟩
    · obtain ⟨t, ht, -⟩ := State.frames_cons hr
      show T.setVm s.vm = { ((T.setVm s.vm).setFrames (.invoking m args :: below)).setFrames (T.setVm s.vm).frames with heap := T.heap, slotsUsed := T.slotsUsed }
      rw [State.setFrames_setFrames, State.setFrames_self ht]
      rfl
    · show T.slotsUsed = T.slotsUsed + ((T.heap.toList.drop T.heap.size).map (·.slots.size)).sum
      rw [List.drop_eq_nil_of_le (Nat.le_of_eq Array.length_toList)]
      rfl
    · show ((T.heap.toList.drop T.heap.size).map (·.slots.size)).sum ≤ 0
      rw [List.drop_eq_nil_of_le (Nat.le_of_eq Array.length_toList)]
      exact Nat.le_refl _
/-- 'throw new E()': new; dup; invokespecial; athrow -/
theorem vx_throw0 {cc : ByteArray} {pc : Nat} (hexec : p.tables.exec = Jvm.exec) (hb : c.code = cc) (hl : l.stackTraces = false) {own cls : String} {names : List String} {ik ic mc ms : Nat} {A : Nat → Prop}
    (hown : s.vm.findClass own = some m.cls) (hcls : Bundle.fit cls = true) (hnames : ∀ n ∈ names, Bundle.fit n = true)
    (hk : (Cond.classLink own ik cls).before args s = true) (hini : (Cond.initialized cls).before args s = true) (hat : ∀ w ∈ vx_at0 own ic cls names, w.before args s = true)
    (hgood : ∀ w ∈ Cond.classLink own ik cls :: Cond.initialized cls :: vx_at0 own ic cls names, vx_ot w = true)
    (hU : vx_Zq Bundle.tN "UNASSIGNED_STACK" Bundle.steD A s s.heap) (hN : vx_Zq Bundle.tN "SUPPRESSED_SENTINEL" Bundle.listD A s s.heap) (hS : va_S A s.heap H locs) (hsize : ls.size = c.maxLocals)
    (d0 : decode cc pc = .ok (.new ik, 3)) (d3 : decode cc (pc + 3) = .ok (.dup, 1)) (d4 : decode cc (pc + 4) = .ok (.invokespecial ic, 3)) (d7 : decode cc (pc + 7) = .ok (.athrow, 1))
    (hout : ∀ x ∈ c.exceptionTable.toList, covers x (pc + 7) = false)
    (hRframes : names.length + 3 < R.frames) (hRlocals : (rest.map fun v => v.category).sum + (13 * (names.length + 1) + 42) ≤ R.locals) (hRcells : cells + 1 ≤ R.cells) (hRslots : slots + 6 ≤ R.slots) (hlocks : meth.locks = false)
    (hx : ∀ t : State, s.vm.Alike t.vm → H.size ≤ t.heap.size → (∀ q : Nat, q < H.size → t.heap[q]? = H[q]?) → XC cls s t)
    (hf : ∀ z ∈ locs, free z.base) (hc : cells + 1 ≤ mc) (hs : slots + 6 ≤ ms) :
    W p l e R s m args below meth c H locs cells slots (vx_MQ below Qc XC args s mc ms free) (F0 m pc ls rest) := by
  intro T hT X
  have htr : e.platform.stackTraces = false := (show e.platform.stackTraces = l.stackTraces by rw [X.admits.platform]).trans hl
  have Y := vx_rebase X (R' := { frames := R.frames, locals := R.locals, cells := 1, slots := 6 }) (Nat.le_refl _) (Nat.le_refl _) hRcells hRslots
  obtain ⟨s', hA⟩ : ∃ z, z = (T.setVm s.vm).setFrames (.invoking m args :: below) := ⟨_, rfl⟩
  rw [← hA] at Y
  have hvm : s'.vm = s.vm := by rw [hA]; rfl
  have hhp : s'.heap = H := by rw [hA]; exact hT
  have hW0 : s.WarmedH s'.vm := by rw [hvm]; exact State.WarmedH.refl s
  have hat' : ∀ w ∈ vx_at0 own ic cls names, w.before args s' = true := fun w hw => vx_ot_at hW0 hvm.symm (hgood w (List.mem_cons_of_mem _ (List.mem_cons_of_mem _ hw))) (hat w hw)
  have hk' : (Cond.classLink own ik cls).before args s' = true := vx_ot_at hW0 hvm.symm (hgood _ List.mem_cons_self) hk
  have hini' : (Cond.initialized cls).before args s' = true := vx_ot_at hW0 hvm.symm (hgood _ (List.mem_cons_of_mem _ List.mem_cons_self)) hini
  have hU' : vx_Zq Bundle.tN "UNASSIGNED_STACK" Bundle.steD A s' s'.heap := by rw [hhp]; exact vx_Zq.moved hW0.alike (hU.kept hS.2.1)
  have hN' : vx_Zq Bundle.tN "SUPPRESSED_SENTINEL" Bundle.listD A s' s'.heap := by rw [hhp]; exact vx_Zq.moved hW0.alike (hN.kept hS.2.1)
  have h : ∀ w ∈ Bundle.ownAtoms0 own ic cls names, w.before args s' = true := vx_own hat' (vx_isRefq hU'.1) (vx_isRefq hN'.1) hU'.2.word hN'.2.word
  have hown' : s'.vm.findClass own = some m.cls := by rw [hvm]; exact hown
  have hins : (Cond.instantiable cls 6).before args s' = true := h _ (by simp [Bundle.ownAtoms0])
  obtain ⟨vm₁, cX, kX, hfX, hkX, -, -, X₁, st1⟩ := Y.newCold hexec (own := own) (C := cls) (index := ik) (n := 6) hown' hk' hins hini'
    (g := F0 m pc ls rest) rfl (by rw [hb]; exact d0) (Nat.le_refl _) (Nat.le_refl _)
  generalize hT1 : (T.setVm vm₁).pushCell { cls := cX, slots := kX.instanceTypes.map defaultValue, vm := .none } = T1 at X₁ st1
  have hcat : (Value.ref T.heap.size).category = 1 := rfl
  have hcellA : T1.heap[T.heap.size]? = some (freshCell cX kX) := by rw [← hT1]; exact State.heap_pushCell_size _ _
  have d3' : decode c.code (pc + 3) = .ok (.dup, 1) := by rw [hb]; exact d3
  obtain ⟨U, hsteps, hrun, hend, hW, hsame, ce, hce, hO⟩ := X₁.ctorThrow0 hexec htr (own := own) (cls := cls) (names := names) (ic := ic) hown' hcls hnames h (fun x hx => nomatch hx) hfX hkX hcellA (by rw [hhp, hT]; exact Nat.le_refl _)
    (g := { method := m, pc := pc + 4, locals := ls, stack := .ref T.heap.size :: .ref T.heap.size :: rest, locked := none }) rfl hsize rfl rfl (rest := rest) rfl
    (by rw [hb]; exact d4) (by rw [hb]; exact d7) hout hRframes (by simp only [List.map_cons, List.sum_cons, hcat]; omega) hlocks
  obtain ⟨f1, f2⟩ := vx_frame hsame
  rw [hhp] at f1 f2
  have hWs : s.WarmedH U.vm := State.WarmedH.trans hW0 hW
  have hcl : s.vm.findClass cls = some ce.cls := by
    have h9 := hO.cls
    rw [hvm] at h9
    exact h9
  have hall : s.sameButNew ({ U with vm := s.vm } : State) locs mc ms := by
    subst hA
    obtain ⟨e1, e2⟩ := hsame
    rw [State.setFrames_setFrames] at e1
    have h2 : (T.setVm s.vm).sameButNew ({ U with vm := s.vm } : State) [] (0 + 1) (0 + 6) := ⟨e1, e2⟩
    have h3 := X.same.trans h2
    rw [List.append_nil] at h3
    exact h3.mono hc hs
  refine ⟨U, ?_, .threw T.heap.size, hrun, hend, Or.inr ⟨T.heap.size, rfl, cls, ce, locs, hx U hWs.alike f1 (fun q hq => f2 q hq (fun z hz => nomatch hz)), hce, hO.vm, hcl, hWs, hall, hf⟩⟩
  refine st1 _ ?_
  show Steps p.tables e below (T1.setTop { method := m, pc := pc + 3, locals := ls, stack := .ref T.heap.size :: rest, locked := none }) _
  jvm_step X₁.here [X₁.here.top, hexec, d3', Value.category]
  exact hsteps
/-- 'throw new E("text")': new; dup; ldc; invokespecial; athrow -/
theorem vx_throwS {cc : ByteArray} {pc : Nat} (hexec : p.tables.exec = Jvm.exec) (hb : c.code = cc) (hl : l.stackTraces = false) {own cls text : String} {names : List String} {ik is ic mc ms sa : Nat} {A : Nat → Prop}
    (hown : s.vm.findClass own = some m.cls) (hcls : Bundle.fit cls = true) (hnames : ∀ n ∈ names, Bundle.fit n = true)
    (hk : (Cond.classLink own ik cls).before args s = true) (hini : (Cond.initialized cls).before args s = true) (hstr : vk_R own is text sa s) (hat : ∀ w ∈ vx_atS own ic cls names, w.before args s = true)
    (hgood : ∀ w ∈ Cond.classLink own ik cls :: Cond.initialized cls :: vx_atS own ic cls names, vx_ot w = true)
    (hU : vx_Zq Bundle.tN "UNASSIGNED_STACK" Bundle.steD A s s.heap) (hN : vx_Zq Bundle.tN "SUPPRESSED_SENTINEL" Bundle.listD A s s.heap) (hS : va_S A s.heap H locs) (hsize : ls.size = c.maxLocals)
    (d0 : decode cc pc = .ok (.new ik, 3)) (d3 : decode cc (pc + 3) = .ok (.dup, 1)) (d4 : decode cc (pc + 4) = .ok (.ldc is, 2)) (d6 : decode cc (pc + 6) = .ok (.invokespecial ic, 3)) (d9 : decode cc (pc + 9) = .ok (.athrow, 1))
    (hout : ∀ x ∈ c.exceptionTable.toList, covers x (pc + 9) = false)
    (hRframes : names.length + 3 < R.frames) (hRlocals : (rest.map fun v => v.category).sum + (13 * (names.length + 1) + 43) ≤ R.locals) (hRcells : cells + 1 ≤ R.cells) (hRslots : slots + 6 ≤ R.slots) (hlocks : meth.locks = false)
    (hx : ∀ t : State, s.vm.Alike t.vm → H.size ≤ t.heap.size → (∀ q : Nat, q < H.size → t.heap[q]? = H[q]?) → XC cls s t)
    (hf : ∀ z ∈ locs, free z.base) (hc : cells + 1 ≤ mc) (hs : slots + 6 ≤ ms) :
    W p l e R s m args below meth c H locs cells slots (vx_MQ below Qc XC args s mc ms free) (F0 m pc ls rest) := by
  intro T hT X
  have htr : e.platform.stackTraces = false := (show e.platform.stackTraces = l.stackTraces by rw [X.admits.platform]).trans hl
  have Y := vx_rebase X (R' := { frames := R.frames, locals := R.locals, cells := 1, slots := 6 }) (Nat.le_refl _) (Nat.le_refl _) hRcells hRslots
  obtain ⟨s', hA⟩ : ∃ z, z = (T.setVm s.vm).setFrames (.invoking m args :: below) := ⟨_, rfl⟩
  rw [← hA] at Y
  have hvm : s'.vm = s.vm := by rw [hA]; rfl
  have hhp : s'.heap = H := by rw [hA]; exact hT
  have hW0 : s.WarmedH s'.vm := by rw [hvm]; exact State.WarmedH.refl s
  have hat' : ∀ w ∈ vx_atS own ic cls names, w.before args s' = true := fun w hw => vx_ot_at hW0 hvm.symm (hgood w (List.mem_cons_of_mem _ (List.mem_cons_of_mem _ hw))) (hat w hw)
  have hk' : (Cond.classLink own ik cls).before args s' = true := vx_ot_at hW0 hvm.symm (hgood _ List.mem_cons_self) hk
  have hini' : (Cond.initialized cls).before args s' = true := vx_ot_at hW0 hvm.symm (hgood _ (List.mem_cons_of_mem _ List.mem_cons_self)) hini
  have hU' : vx_Zq Bundle.tN "UNASSIGNED_STACK" Bundle.steD A s' s'.heap := by rw [hhp]; exact vx_Zq.moved hW0.alike (hU.kept hS.2.1)
  have hN' : vx_Zq Bundle.tN "SUPPRESSED_SENTINEL" Bundle.listD A s' s'.heap := by rw [hhp]; exact vx_Zq.moved hW0.alike (hN.kept hS.2.1)
  have h : ∀ w ∈ Bundle.ownAtoms own ic cls names, w.before args s' = true := vx_own hat' (vx_isRefq hU'.1) (vx_isRefq hN'.1) hU'.2.word hN'.2.word
  have hown' : s'.vm.findClass own = some m.cls := by rw [hvm]; exact hown
  have hins : (Cond.instantiable cls 6).before args s' = true := h _ (by simp [Bundle.ownAtoms])
  obtain ⟨vm₁, cX, kX, hfX, hkX, -, -, X₁, st1⟩ := Y.newCold hexec (own := own) (C := cls) (index := ik) (n := 6) hown' hk' hins hini'
    (g := F0 m pc ls rest) rfl (by rw [hb]; exact d0) (Nat.le_refl _) (Nat.le_refl _)
  generalize hT1 : (T.setVm vm₁).pushCell { cls := cX, slots := kX.instanceTypes.map defaultValue, vm := .none } = T1 at X₁ st1
  have hcat : (Value.ref T.heap.size).category = 1 := rfl
  have hcellA : T1.heap[T.heap.size]? = some (freshCell cX kX) := by rw [← hT1]; exact State.heap_pushCell_size _ _
  have d3' : decode c.code (pc + 3) = .ok (.dup, 1) := by rw [hb]; exact d3
  have d4' : decode c.code (pc + 4) = .ok (.ldc is, 2) := by rw [hb]; exact d4
  have hstr' : vk_R own is text sa s' := vk_R.warm hW0 hstr
  obtain ⟨U, hsteps, hrun, hend, hW, hsame, ce, hce, hO⟩ := X₁.ctorThrowS hexec htr (own := own) (cls := cls) (names := names) (ic := ic) hown' hcls hnames h (fun x hx => nomatch hx) hfX hkX hcellA (by rw [hhp, hT]; exact Nat.le_refl _) (msg := .ref sa) rfl
    (g := { method := m, pc := pc + 6, locals := ls, stack := .ref sa :: .ref T.heap.size :: .ref T.heap.size :: rest, locked := none }) rfl hsize rfl rfl (rest := rest) rfl
    (by rw [hb]; exact d6) (by rw [hb]; exact d9) hout hRframes (by simp only [List.map_cons, List.sum_cons, hcat]; omega) hlocks
  obtain ⟨f1, f2⟩ := vx_frame hsame
  rw [hhp] at f1 f2
  have hWs : s.WarmedH U.vm := State.WarmedH.trans hW0 hW
  have hcl : s.vm.findClass cls = some ce.cls := by
    have h9 := hO.cls
    rw [hvm] at h9
    exact h9
  have hall : s.sameButNew ({ U with vm := s.vm } : State) locs mc ms := by
    subst hA
    obtain ⟨e1, e2⟩ := hsame
    rw [State.setFrames_setFrames] at e1
    have h2 : (T.setVm s.vm).sameButNew ({ U with vm := s.vm } : State) [] (0 + 1) (0 + 6) := ⟨e1, e2⟩
    have h3 := X.same.trans h2
    rw [List.append_nil] at h3
    exact h3.mono hc hs
  refine ⟨U, ?_, .threw T.heap.size, hrun, hend, Or.inr ⟨T.heap.size, rfl, cls, ce, locs, hx U hWs.alike f1 (fun q hq => f2 q hq (fun z hz => nomatch hz)), hce, hO.vm, hcl, hWs, hall, hf⟩⟩
  refine st1 _ ?_
  show Steps p.tables e below (T1.setTop { method := m, pc := pc + 3, locals := ls, stack := .ref T.heap.size :: rest, locked := none }) _
  jvm_step X₁.here [X₁.here.top, hexec, d3', Value.category]
  exact X₁.ldcString hexec (own := own) (text := text) (index := is) (a := sa) hown' hstr'.1 hstr'.2
    (g := { method := m, pc := pc + 4, locals := ls, stack := .ref T.heap.size :: .ref T.heap.size :: rest, locked := none }) rfl d4' _ hsteps
/-- 'throw new E("text")', the text by a wide index -/
theorem vx_throwSW {cc : ByteArray} {pc : Nat} (hexec : p.tables.exec = Jvm.exec) (hb : c.code = cc) (hl : l.stackTraces = false) {own cls text : String} {names : List String} {ik is ic mc ms sa : Nat} {A : Nat → Prop}
    (hown : s.vm.findClass own = some m.cls) (hcls : Bundle.fit cls = true) (hnames : ∀ n ∈ names, Bundle.fit n = true)
    (hk : (Cond.classLink own ik cls).before args s = true) (hini : (Cond.initialized cls).before args s = true) (hstr : vk_R own is text sa s) (hat : ∀ w ∈ vx_atS own ic cls names, w.before args s = true)
    (hgood : ∀ w ∈ Cond.classLink own ik cls :: Cond.initialized cls :: vx_atS own ic cls names, vx_ot w = true)
    (hU : vx_Zq Bundle.tN "UNASSIGNED_STACK" Bundle.steD A s s.heap) (hN : vx_Zq Bundle.tN "SUPPRESSED_SENTINEL" Bundle.listD A s s.heap) (hS : va_S A s.heap H locs) (hsize : ls.size = c.maxLocals)
    (d0 : decode cc pc = .ok (.new ik, 3)) (d3 : decode cc (pc + 3) = .ok (.dup, 1)) (d4 : decode cc (pc + 4) = .ok (.ldc_w is, 3)) (d7 : decode cc (pc + 7) = .ok (.invokespecial ic, 3)) (d10 : decode cc (pc + 10) = .ok (.athrow, 1))
    (hout : ∀ x ∈ c.exceptionTable.toList, covers x (pc + 10) = false)
    (hRframes : names.length + 3 < R.frames) (hRlocals : (rest.map fun v => v.category).sum + (13 * (names.length + 1) + 43) ≤ R.locals) (hRcells : cells + 1 ≤ R.cells) (hRslots : slots + 6 ≤ R.slots) (hlocks : meth.locks = false)
    (hx : ∀ t : State, s.vm.Alike t.vm → H.size ≤ t.heap.size → (∀ q : Nat, q < H.size → t.heap[q]? = H[q]?) → XC cls s t)
    (hf : ∀ z ∈ locs, free z.base) (hc : cells + 1 ≤ mc) (hs : slots + 6 ≤ ms) :
    W p l e R s m args below meth c H locs cells slots (vx_MQ below Qc XC args s mc ms free) (F0 m pc ls rest) := by
  intro T hT X
  have htr : e.platform.stackTraces = false := (show e.platform.stackTraces = l.stackTraces by rw [X.admits.platform]).trans hl
  have Y := vx_rebase X (R' := { frames := R.frames, locals := R.locals, cells := 1, slots := 6 }) (Nat.le_refl _) (Nat.le_refl _) hRcells hRslots
  obtain ⟨s', hA⟩ : ∃ z, z = (T.setVm s.vm).setFrames (.invoking m args :: below) := ⟨_, rfl⟩
  rw [← hA] at Y
  have hvm : s'.vm = s.vm := by rw [hA]; rfl
  have hhp : s'.heap = H := by rw [hA]; exact hT
  have hW0 : s.WarmedH s'.vm := by rw [hvm]; exact State.WarmedH.refl s
  have hat' : ∀ w ∈ vx_atS own ic cls names, w.before args s' = true := fun w hw => vx_ot_at hW0 hvm.symm (hgood w (List.mem_cons_of_mem _ (List.mem_cons_of_mem _ hw))) (hat w hw)
  have hk' : (Cond.classLink own ik cls).before args s' = true := vx_ot_at hW0 hvm.symm (hgood _ List.mem_cons_self) hk
  have hini' : (Cond.initialized cls).before args s' = true := vx_ot_at hW0 hvm.symm (hgood _ (List.mem_cons_of_mem _ List.mem_cons_self)) hini
  have hU' : vx_Zq Bundle.tN "UNASSIGNED_STACK" Bundle.steD A s' s'.heap := by rw [hhp]; exact vx_Zq.moved hW0.alike (hU.kept hS.2.1)
  have hN' : vx_Zq Bundle.tN "SUPPRESSED_SENTINEL" Bundle.listD A s' s'.heap := by rw [hhp]; exact vx_Zq.moved hW0.alike (hN.kept hS.2.1)
  have h : ∀ w ∈ Bundle.ownAtoms own ic cls names, w.before args s' = true := vx_own hat' (vx_isRefq hU'.1) (vx_isRefq hN'.1) hU'.2.word hN'.2.word
  have hown' : s'.vm.findClass own = some m.cls := by rw [hvm]; exact hown
  have hins : (Cond.instantiable cls 6).before args s' = true := h _ (by simp [Bundle.ownAtoms])
  obtain ⟨vm₁, cX, kX, hfX, hkX, -, -, X₁, st1⟩ := Y.newCold hexec (own := own) (C := cls) (index := ik) (n := 6) hown' hk' hins hini'
    (g := F0 m pc ls rest) rfl (by rw [hb]; exact d0) (Nat.le_refl _) (Nat.le_refl _)
  generalize hT1 : (T.setVm vm₁).pushCell { cls := cX, slots := kX.instanceTypes.map defaultValue, vm := .none } = T1 at X₁ st1
  have hcat : (Value.ref T.heap.size).category = 1 := rfl
  have hcellA : T1.heap[T.heap.size]? = some (freshCell cX kX) := by rw [← hT1]; exact State.heap_pushCell_size _ _
  have d3' : decode c.code (pc + 3) = .ok (.dup, 1) := by rw [hb]; exact d3
  have d4' : decode c.code (pc + 4) = .ok (.ldc_w is, 3) := by rw [hb]; exact d4
  have hstr' : vk_R own is text sa s' := vk_R.warm hW0 hstr
  obtain ⟨U, hsteps, hrun, hend, hW, hsame, ce, hce, hO⟩ := X₁.ctorThrowS hexec htr (own := own) (cls := cls) (names := names) (ic := ic) hown' hcls hnames h (fun x hx => nomatch hx) hfX hkX hcellA (by rw [hhp, hT]; exact Nat.le_refl _) (msg := .ref sa) rfl
    (g := { method := m, pc := pc + 7, locals := ls, stack := .ref sa :: .ref T.heap.size :: .ref T.heap.size :: rest, locked := none }) rfl hsize rfl rfl (rest := rest) rfl
    (by rw [hb]; exact d7) (by rw [hb]; exact d10) hout hRframes (by simp only [List.map_cons, List.sum_cons, hcat]; omega) hlocks
  obtain ⟨f1, f2⟩ := vx_frame hsame
  rw [hhp] at f1 f2
  have hWs : s.WarmedH U.vm := State.WarmedH.trans hW0 hW
  have hcl : s.vm.findClass cls = some ce.cls := by
    have h9 := hO.cls
    rw [hvm] at h9
    exact h9
  have hall : s.sameButNew ({ U with vm := s.vm } : State) locs mc ms := by
    subst hA
    obtain ⟨e1, e2⟩ := hsame
    rw [State.setFrames_setFrames] at e1
    have h2 : (T.setVm s.vm).sameButNew ({ U with vm := s.vm } : State) [] (0 + 1) (0 + 6) := ⟨e1, e2⟩
    have h3 := X.same.trans h2
    rw [List.append_nil] at h3
    exact h3.mono hc hs
  refine ⟨U, ?_, .threw T.heap.size, hrun, hend, Or.inr ⟨T.heap.size, rfl, cls, ce, locs, hx U hWs.alike f1 (fun q hq => f2 q hq (fun z hz => nomatch hz)), hce, hO.vm, hcl, hWs, hall, hf⟩⟩
  refine st1 _ ?_
  show Steps p.tables e below (T1.setTop { method := m, pc := pc + 3, locals := ls, stack := .ref T.heap.size :: rest, locked := none }) _
  jvm_step X₁.here [X₁.here.top, hexec, d3', Value.category]
  exact X₁.ldcStringW hexec (own := own) (text := text) (index := is) (a := sa) hown' hstr'.1 hstr'.2
    (g := { method := m, pc := pc + 4, locals := ls, stack := .ref T.heap.size :: .ref T.heap.size :: rest, locked := none }) rfl d4' _ hsteps
end Ends
section Bodies
variable {l : Launch}
theorem vx_ofW {y : MethodName} {ws ws' : List Cond} {rm : Room} {Pc : Array Value → State → Prop} {Qc : Array Value → State → Outcome → State → Prop} {XC : String → State → State → Prop} {mc ms : Nat} {free : Addr → Prop} {cc : ByteArray} {maxL : Nat} {ret : Option FieldType}
    (hy : plainName y.cls = true) (hw : ws = Cond.code y cc maxL ret :: ws')
    (body : ∀ p e s m args below meth c s₁, BodyLoose p l y (headSpec ws rm) cc maxL ret e s m args below meth c s₁ → c.maxLocals = maxL → (∀ x ∈ c.exceptionTable.toList, False) → Pc args s →
      W p l e (headSpec ws rm).room s m args below meth c s.heap [] 0 0 (vx_MQ below Qc XC args s mc ms free) (entryFrame m args maxL)) : vx_Met l y ws rm Pc Qc XC mc ms free := by
  refine MetFree.of_bodyS (code := cc) (maxLocals := maxL) (ret := ret) hy ?_ ?_
  · intro args s m h hn
    obtain ⟨meth, c, h1, h2, h3, h4, h5, h6, -, -⟩ := Cond.code_spec hn (atoms_spec (ws := ws) h _ (by rw [hw]; exact List.mem_cons_self))
    exact ⟨meth, c, h1, h2, h3, h4, h5, h6⟩
  · intro p e s m args below meth c s₁ B hml hP _
    have hh0 : s₁.heap = s.heap := by rw [B.state]; rfl
    have ht : ∀ x ∈ c.exceptionTable.toList, False := by
      obtain ⟨meth9, c9, h1, h2, -, -, -, -, h7, -⟩ := Cond.code_spec B.named (atoms_spec (ws := ws) B.pre _ (by rw [hw]; exact List.mem_cons_self))
      cases Option.some.inj (h1.symm.trans B.method)
      cases Option.some.inj (h2.symm.trans (Stand.of_body B).code)
      intro x hx
      rw [Array.isEmpty_iff.mp h7] at hx
      cases hx
    obtain ⟨t, a1, o, b1, b2, b3⟩ := body p e s m args below meth c s₁ B hml ht hP s₁ hh0 (Stand.of_body B)
    exact ⟨t, o, a1, b1, b2, b3⟩
/-- the table of a body with handlers -/
theorem vx_table {p : Program} {x y : MethodName} {S : Spec} {cc bytes : ByteArray} {maxL maxL' : Nat} {ret ret' : Option FieldType} {e : Env} {s s₁ : State} {m : MethodId} {args : Array Value} {below : List Frame} {meth : Method} {c : Code} {hh : List (Nat × Nat × Nat × Nat)}
    (B : BodyLoose p l y S cc maxL ret e s m args below meth c s₁) (h : (Cond.codeWith y bytes maxL' ret' hh).before args s = true) : c.exceptionTable.toList = tableOf hh := by
  obtain ⟨m9, meth9, c9, hn9, h1, h2, -, -, h6, -⟩ := Cond.codeWith_spec h
  cases Option.some.inj (hn9.symm.trans B.named)
  cases Option.some.inj (h1.symm.trans B.method)
  cases Option.some.inj (h2.symm.trans (Stand.of_body B).code)
  rw [← h6, table_eq]
end Bodies
end VXA
/-! ===== END ===== -/
/-! ===== BEGIN a static call of a method with an exception table ===== -/
section VXS
variable {p : Program} {l : Launch} {e : Env} {R : Room} {s : State} {m : MethodId} {args : Array Value} {below : List Frame} {meth : Method} {c : Code} {T : State} {H : Heap} {locs : List Loc} {cells slots : Nat}
abbrev vx_CSW (R : Room) (s : State) (args : Array Value) (own : String) (index : Nat) (y : MethodName) (bytes : ByteArray) (maxL : Nat) (ret : Option FieldType) (hh : List (Nat × Nat × Nat × Nat)) (ws : List Cond) (rm : Room) (mc ms n : Nat) : Prop :=
  (rm.cells = mc ∧ rm.slots = ms ∧ rm.frames + 1 ≤ R.frames ∧ 8 + (maxL + 11) + rm.locals ≤ R.locals ∧ (∀ w ∈ ws, ∀ (a' : Array Value) (U : State), s.WarmedH U.vm → w.before a' U = true) ∧ Cond.codeWith y bytes maxL ret hh ∈ ws) ∧
  (Cond.codeWith y bytes maxL ret hh).before args s = true ∧ (Cond.initialized y.cls).before args s = true ∧ (y.cls ≠ "java/lang/invoke/MethodHandle" ∧ y.cls ≠ "java/lang/invoke/VarHandle") ∧
  (∀ sig, parseMethodDescriptor y.desc = some sig → n = sig.parameters.length) ∧ (Cond.methodLink own index y).before args s = true ∧ (Cond.static y).before args s = true
theorem vx_cwSW {own : String} {index maxL mc ms : Nat} {y : MethodName} {bytes : ByteArray} {ret : Option FieldType} {hh : List (Nat × Nat × Nat × Nat)} {Ts ws ws' : List Cond} {rm : Room} (n : Nat) (ht : ∀ w ∈ Ts, w.before args s = true) (hT : GoodIn Ts (va_wsS own index y ws)) (hw : ws = Cond.codeWith y bytes maxL ret hh :: ws') (hrc : rm.cells = mc) (hrs : rm.slots = ms)
    (hd : y.cls ≠ "java/lang/invoke/MethodHandle" ∧ y.cls ≠ "java/lang/invoke/VarHandle" ∧ (parseMethodDescriptor y.desc).map (fun d => d.parameters.length) = some n) (hR : rm.frames + 1 ≤ R.frames ∧ 8 + (maxL + 11) + rm.locals ≤ R.locals) :
    vx_CSW R s args own index y bytes maxL ret hh ws rm mc ms n := by
  have ok : ∀ w ∈ va_wsS own index y ws, w.before args s = true := fun w h => ht w (hT w h).1
  have hG : GoodIn Ts ws := fun w h => hT w (by unfold va_wsS; exact List.mem_append_right _ h)
  have hc : Cond.codeWith y bytes maxL ret hh ∈ ws := by rw [hw]; exact List.mem_cons_self
  refine ⟨⟨hrc, hrs, hR.1, hR.2, pay_in ht hG, hc⟩, ht _ (hG _ hc).1, ok _ (by simp [va_wsS]), ⟨hd.1, hd.2.1⟩, fun sig h => ?_, ok _ (by simp [va_wsS]), ok _ (by simp [va_wsS])⟩
  have h2 := hd.2.2
  rw [h] at h2
  exact (Option.some.inj h2).symm
theorem vx_callSW (X : Stand p l e R s m args below meth c T locs cells slots) (hexec : p.tables.exec = Jvm.exec) {own : String} {index : Nat} {y : MethodName} {bytes : ByteArray} {maxL : Nat} {ret : Option FieldType} {hh : List (Nat × Nat × Nat × Nat)}
    (hown : s.vm.findClass own = some m.cls) (hlink : (Cond.methodLink own index y).before args s = true) (hstat : (Cond.static y).before args s = true) (hinit : (Cond.initialized y.cls).before args s = true)
    (hcode : (Cond.codeWith y bytes maxL ret hh).before args s = true) (hy : y.cls ≠ "java/lang/invoke/MethodHandle" ∧ y.cls ≠ "java/lang/invoke/VarHandle")
    {W9 : Nat} {Pre : Pt → Array Value → Prop} {Post : Pt → Array Value → Option Value → Pt → Prop} (hK : Back l R p e below s args y 3 W9 Pre Post)
    {g : JFrame} (hg : g.method = m) (hsize : g.locals.size = c.maxLocals) {argsL rest : List Value} (hlen : ∀ sig, parseMethodDescriptor y.desc = some sig → argsL.length = sig.parameters.length)
    (hstack : g.stack = argsL.reverse ++ rest) (hW : 2 * g.monitorRoom + (rest.map fun v => v.category).sum ≤ W9) (hdg : decode c.code g.pc = .ok (.invokestatic index, 3))
    (hpre : ∀ vm₁, s.WarmedH vm₁ → Pre ⟨T.setVm vm₁, locs, cells, slots⟩ argsL.toArray) :
    ∃ (v : Option Value) (vm₁ : Vm) (B : Pt), s.WarmedH vm₁ ∧ Stand p l e R s m args below meth c B.U B.locs B.cells B.slots ∧ Post ⟨T.setVm vm₁, locs, cells, slots⟩ argsL.toArray v B ∧
      ∀ target, Steps p.tables e below (B.U.setTop { g with pc := g.pc + 3, stack := v.toList ++ rest }) target → Steps p.tables e below (T.setTop g) target := by
  obtain ⟨mk, methM, cM, hnamed, hmethM, -, -, -, -, -, -, hsigM⟩ := Cond.codeWith_spec hcode
  have hstatic : methM.isStatic = true := Cond.static_spec hnamed hmethM hstat
  obtain ⟨kP, hkP, -⟩ := className_of_methodNamed hnamed
  have hinitP : kP.init = .initialized := Cond.initialized_spec (findClass_of_methodNamed hnamed) hkP hinit
  obtain ⟨vm₁, X₁, hstep₁⟩ := X.invokestatic hexec hown hlink hnamed hmethM hstatic hkP hinitP hy (g := g) hg (argsL := argsL) (rest := rest) (hlen _ hsigM) hstack hdg
  obtain ⟨v, B, X', hpost, hsteps⟩ := hK m meth c ⟨T.setVm vm₁, locs, cells, slots⟩ { g with stack := rest } (.invokestatic index) mk argsL.toArray X₁ hg hsize hdg hW (X₁.named hnamed) (hpre vm₁ X₁.warmed)
  exact ⟨v, vm₁, B, X₁.warmed, X', hpost, fun target h => hstep₁ _ fun acts => by rw [doInvoke_state]; exact hsteps.trans h⟩
theorem vx_runSW {y : MethodName} {bytes cc : ByteArray} {maxL nL mc ms n index : Nat} {ret : Option FieldType} {hh : List (Nat × Nat × Nat × Nat)} {ws : List Cond} {rm : Room} {Pc : Array Value → State → Prop} {Qc : Array Value → State → Outcome → State → Prop} {free : Addr → Prop} {Ts : List Cond} {own : String} {As rest : List Value} {g : JFrame}
    (S : CallFix p m c cc nL s args Ts own) (hM : Met l y ws rm Pc Qc mc ms free) (cw : vx_CSW R s args own index y bytes maxL ret hh ws rm mc ms n) (hp : PreS s H Pc As)
    (hg : g.method = m) (hn : As.length = n) (hsize : g.locals.size = nL) (hstack : g.stack = As.reverse ++ rest) (hW : 2 * g.monitorRoom + (rest.map fun v => v.category).sum ≤ 8) (hdg : decode cc g.pc = .ok (.invokestatic index, 3)) (hf : cells + mc ≤ R.cells ∧ slots + ms ≤ R.slots) :
    va_Run p l e R s m args below meth c H locs cells slots mc ms g rest (Qc As.toArray) (free) := by
  obtain ⟨⟨hrc, hrs, hfr, hlo, hws, hcw⟩, hcode, hini, hy, hlen, hl, hstt⟩ := cw
  have hK : Back l R p e below s args y 3 8 (PreOf R mc ms Pc) (PostOf Qc mc ms free) := va_backW (hh := hh) (bytes := bytes) (maxL := maxL) (ret := ret) hM hp.1 hrc hrs hfr hlo hws hcw (fun a' U hW => word_at hW (Or.inl (by first | rfl | simp [Cond.onTables, Cond.keeps, Cond.steady])) hini)
  obtain ⟨hx, hb, hml, ho, -⟩ := S
  intro T hT X
  obtain ⟨v, vm₁, ⟨U', l2, c2, s2⟩, hW₁, X', ⟨g', mk, t, L, e1, e2, hq, h1, hL, h2, h3⟩, st⟩ := vx_callSW X hx (hh := hh) (bytes := bytes) (maxL := maxL) (ret := ret) ho hl hstt hini hcode hy hK hg (hsize.trans hml.symm) (argsL := As) (rest := rest) (fun sig h => hn.trans (hlen sig h)) hstack hW (by rw [hb]; exact hdg)
    (fun vm₁ hW₁ => ⟨hf.1, hf.2, hp.2 (T.setVm vm₁) hT hW₁⟩)
  dsimp only [Pt.U, Pt.locs, Pt.cells, Pt.slots] at X' e1 e2 h1 h2 h3 st
  subst h1; subst h2; subst h3
  exact ⟨v, (T.setVm vm₁).calling g' mk As.toArray, t, U', L, hT, X', hL, e1, e2, hq, st⟩
/-- not caught here, past rows that name other classes: it goes on to the caller -/
theorem vx_outP {p : Program} {l : Launch} {e : Env} {R : Room} {s : State} {m : MethodId} {args : Array Value} {below : List Frame} {meth : Method} {c : Code} {H : Heap} {locs : List Loc} {cells slots : Nat} {free : Addr → Prop} {ls : Array Slot} {rest : List Value} {Qc : Array Value → State → Outcome → State → Prop} {XC : String → State → State → Prop}
    {pc : Nat} {own E : String} {ce : Cell} {q : Addr} {mc ms : Nat} (hown : s.vm.findClass own = some m.cls) (hlocks : meth.locks = false)
    (hpass : ∀ z ∈ c.exceptionTable.toList, covers z pc = false ∨ (z.catchType ≠ 0 ∧ ∃ nm : String, (Cond.classLink own z.catchType nm).before args s = true ∧ va_Nc E nm s)) (hcell : H[q]? = some ce) (hv : ce.vm = .none) (hcl : s.vm.findClass E = some ce.cls)
    (hx : ∀ t : State, t.heap = H → s.vm.Alike t.vm → XC E s t) (hf : ∀ z ∈ locs, free z.base) (hc : cells ≤ mc) (hs : slots ≤ ms) :
    vx_W p l e R s m args below meth c H locs cells slots (vx_MQ below Qc XC args s mc ms free) (F0 m pc ls rest) q := by
  intro T hT X
  have hpl : e.platform.magicAccessors = ({} : Platform).magicAccessors := by rw [X.admits.platform]
  obtain ⟨vm', hW', X', st⟩ := X.outThrough hlocks q (g := F0 m pc ls rest) rfl rfl rfl (cell := ce) (by rw [hT]; exact hcell) (by rw [hv]; rfl)
    (by obtain ⟨k9, h9, -⟩ := Vm.findClass_spec hcl; exact ⟨k9, h9⟩) (fun z hz => by
      rcases hpass z hz with h | ⟨hz0, nm, hl1, hn1⟩
      · exact Or.inl h
      · obtain ⟨c6, hc6, hcl6⟩ := Cond.classLink_spec hown hl1 e.platform hpl
        obtain ⟨a8, b8, h1, h2, h3⟩ := hn1
        cases Option.some.inj (h1.symm.trans hcl)
        cases Option.some.inj (h2.symm.trans hc6)
        exact Or.inr ⟨hz0, _, hcl6, h3⟩)
  obtain ⟨g₀, hfr⟩ := X'.frames_eq
  have hcell9 : ((T.setVm vm').setFrames (.throwing q :: below)).heap[q]? = some ce := by
    show T.heap[q]? = some ce
    rw [hT]; exact hcell
  have hend : Ended ((T.setVm vm').setFrames (.throwing q :: below)) below (.threw q) := State.frames_setFrames _ (State.cur_lt_of_frames hfr)
  refine ⟨(T.setVm vm').setFrames (.throwing q :: below), ?_, .threw q, X'.here.running, hend, Or.inr ⟨q, rfl, E, ce, locs, hx _ hT (X'.ends _).1.alike, hcell9, hv, hcl, (X'.ends _).1, (X'.ends _).2.mono hc hs, hf⟩⟩
  rw [X.pushThrowing_eq]
  exact st
/-- a thing of a world lies in the heap -/
theorem vx_lt {D : va_G} {cl : List vw_C} {ws : va_W} {H1 : Heap} (h : va_P D cl ws H1) {k : Nat} {q : Nat × va_E} (hk : ws[k]? = some q) : q.1 < H1.size := (h k q hk).lt
end VXS
/-! ===== END ===== -/
/-! ===== BEGIN methods with a table of their own: called by a name, returning or throwing ===== -/
section VXH
/-! vx_backW, vx_callVX, vx_callSX, vx_callVW, vx_runVW, vx_runVX, vx_runSX, vx_ofWH follow the same proofs as their sisters above (Free/Laws.lean, Shelf42/LK1.lean); vx_outP calls Shelf42/NT130.lean (outThrough). -/
section
variable {l : Launch} {R : Room} {p : Program} {e : Env} {below : List Frame} {s : State} {sargs : Array Value} {y : MethodName} {len W9 : Nat}
theorem vx_backW {ws : List Cond} {rm : Room} {Pc : Array Value → State → Prop} {Qc : Array Value → State → Outcome → State → Prop} {XC : String → State → State → Prop} {mc ms : Nat} {free : Addr → Prop} {bytes : ByteArray} {maxL : Nat} {ret : Option FieldType} {hh : List (Nat × Nat × Nat × Nat)}
    (hM : vx_Met l y ws rm Pc Qc XC mc ms free) (hblind : FrameBlind Pc) (hrc : rm.cells = mc) (hrs : rm.slots = ms)
    (hframes : rm.frames + 1 ≤ R.frames) (hlocals : W9 + (maxL + 11) + rm.locals ≤ R.locals)
    (hws : ∀ w ∈ ws, ∀ a' U, s.WarmedH U.vm → w.before a' U = true) (hcode : Cond.codeWith y bytes maxL ret hh ∈ ws) (hinit : ∀ a' U, s.WarmedH U.vm → (Cond.initialized y.cls).before a' U = true) :
    vx_Back l R p e below s sargs y len W9 (PreOf R mc ms Pc) (PostOf Qc mc ms free) (vx_Post XC mc ms free) := by
  intro m meth c A g ig mk a X hg hsize hdg hW hn hp
  have h1 : (headSpec ws rm).pre.before a A.U = true := atoms_intro fun w hw => hws w hw _ _ X.warmed
  have h2 : (Cond.codeWith y bytes maxL ret hh).before a A.U = true := hws _ hcode _ _ X.warmed
  have h3 : (Cond.initialized y.cls).before a A.U = true := hinit _ _ X.warmed
  have h4 : A.cells + (headSpec ws rm).room.cells ≤ R.cells := by rw [show (headSpec ws rm).room.cells = mc from hrc]; exact hp.1
  have h5 : A.slots + (headSpec ws rm).room.slots ≤ R.slots := by rw [show (headSpec ws rm).room.slots = ms from hrs]; exact hp.2.1
  have hPc : Pc a (A.U.calling g mk a) := hblind _ _ _ _ hp.2.2
  obtain ⟨U, Ls, c0, s0⟩ := A
  dsimp only [Pt.U, Pt.locs, Pt.cells, Pt.slots] at h1 h2 h3 h4 h5 X hn hPc ⊢
  obtain ⟨m9, methY, cY, hn9, hmY, hcY, -, hlY, -⟩ := Cond.codeWith_spec h2
  cases Option.some.inj (hn9.symm.trans hn)
  obtain ⟨kY, hkY, -⟩ := className_of_methodNamed hn
  have hinitY : kY.init = .initialized := Cond.initialized_spec (findClass_of_methodNamed hn) hkY h3
  have h : At U g.method c below := by rw [hg]; exact X.here
  have hlocals9 : W9 + (maxL + 11) + (headSpec ws rm).room.locals ≤ R.locals := hlocals
  have happ : (headSpec ws rm).appliesLoose y e.platform (U.calling g mk a) = true :=
    Spec.appliesLoose_calling (g := g) h hdg hn hkY hinitY
      (X.room_calling (g := g) (R' := (headSpec ws rm).room) hsize hmY hcY hframes (by rw [hlY]; omega) h4 h5) h1
  obtain ⟨mid, hmid⟩ := h.above
  have hfr : (U.setTop g).frames = (.java g :: mid) ++ below := by rw [State.frames_setTop' g h.top, hmid]; rfl
  obtain ⟨o, s₂, hsteps, -, hend, hq⟩ := Steps.callFree hM p X.admits X.cas X.clock (acts := []) hfr happ hPc trivial
  have hq' : vx_Q Qc XC mc ms free a (U.calling g mk a) o s₂ := hq
  rw [State.frames_setTop' g h.top] at hend
  obtain ⟨g₀, hg0⟩ := Option.isSome_iff_exists.mp h.top
  obtain ⟨r, hr⟩ := State.topJava?_eq_some.mp hg0
  have hr' : (({ U with heap := s₂.heap, slotsUsed := s₂.slotsUsed } : State).setVm s₂.vm).frames = .java g₀ :: r := hr
  rcases hq' with ⟨hqc, L, hfe, hL⟩ | ⟨q, rfl, E, ce, L, hx, hce, hcv, hcl, hW₂, hsm, hL⟩
  · obtain ⟨⟨v, rfl⟩, hW₂, e2, q2, q3, q4, q5, q6⟩ := id hfe
    have e3 : s₂ = ({ (U.calling g mk a).setFrames s₂.frames with heap := s₂.heap, slotsUsed := s₂.slotsUsed } : State).setVm s₂.vm := by
      have : s₂ = ({ s₂ with vm := (U.calling g mk a).vm } : State).setVm s₂.vm := rfl
      rw [e2] at this
      exact this
    obtain ⟨c₂, i₂, len₂, hc₂, hd₂, hf₂⟩ := hend
    have hW' : U.WarmedH s₂.vm := hW₂
    have hcc : c₂ = c := by
      have h1 : s₂.code? g.method = U.code? g.method := by
        rw [State.code?_eq, State.code?_eq, hW'.alike.method?]
      exact Option.some.inj (hc₂.symm.trans (h1.trans h.code))
    subst hcc
    have hlen : len₂ = len := by rw [hdg] at hd₂; cases hd₂; rfl
    subst hlen
    have hs₂ : s₂ = (({ U with heap := s₂.heap, slotsUsed := s₂.slotsUsed } : State).setVm s₂.vm).setTop { g with pc := g.pc + len₂, stack := v.toList ++ g.stack } := by
      refine e3.trans ?_
      rw [hf₂, State.calling_eq h.top, State.setFrames_setFrames, State.setTop_of_frames _ hr', hr]
      rfl
    have hsame : U.sameButNew ({ U with heap := s₂.heap, slotsUsed := s₂.slotsUsed } : State) L mc ms := by
      refine ⟨?_, q2, q3, q4, q5, q6⟩
      obtain ⟨t, ht, -⟩ := State.frames_cons hr
      show ({ U with heap := s₂.heap, slotsUsed := s₂.slotsUsed } : State) = { U.setFrames U.frames with heap := s₂.heap, slotsUsed := s₂.slotsUsed }
      rw [State.setFrames_self ht]
    subst hg
    refine Or.inl ⟨v, ⟨(({ U with heap := s₂.heap, slotsUsed := s₂.slotsUsed } : State).setVm s₂.vm), Ls ++ L, c0 + mc, s0 + ms⟩,
      ⟨X.admits, X.cas, X.clock, X.frames, X.room, X.hears, X.method, X.code, (X.here.setHeapUsed s₂.heap s₂.slotsUsed).setVm hW'.alike, X.tail, State.WarmedH.trans X.warmed hW', X.limits, X.bytes, X.same.trans (hsame.setVm s.vm)⟩,
      ⟨g, mk, s₂, L, rfl, rfl, hqc, rfl, hL, rfl, rfl⟩, ?_⟩
    show Steps p.tables e below _ ((({ U with heap := s₂.heap, slotsUsed := s₂.slotsUsed } : State).setVm s₂.vm).setTop { g with pc := g.pc + len₂, stack := v.toList ++ g.stack })
    rw [← hs₂]
    exact hsteps
  · obtain ⟨e2, q2, q3, q4, q5, q6⟩ := id hsm
    have e3 : s₂ = ({ (U.calling g mk a).setFrames s₂.frames with heap := s₂.heap, slotsUsed := s₂.slotsUsed } : State).setVm s₂.vm := by
      have : s₂ = ({ s₂ with vm := (U.calling g mk a).vm } : State).setVm s₂.vm := rfl
      rw [e2] at this
      exact this
    have hf₂ : s₂.frames = .throwing q :: .java g :: U.frames.tail := hend
    have hW' : U.WarmedH s₂.vm := hW₂
    have hs₂ : s₂ = ((({ U with heap := s₂.heap, slotsUsed := s₂.slotsUsed } : State).setVm s₂.vm).setTop g).pushFrame (.throwing q) := by
      refine e3.trans ?_
      rw [hf₂, State.calling_eq h.top, State.setFrames_setFrames, State.pushFrame, State.frames_setTop _ hr', State.setTop_of_frames _ hr', State.setFrames_setFrames, hr]
      rfl
    have hsame : U.sameButNew ({ U with heap := s₂.heap, slotsUsed := s₂.slotsUsed } : State) L mc ms := by
      refine ⟨?_, q2, q3, q4, q5, q6⟩
      obtain ⟨t, ht, -⟩ := State.frames_cons hr
      show ({ U with heap := s₂.heap, slotsUsed := s₂.slotsUsed } : State) = { U.setFrames U.frames with heap := s₂.heap, slotsUsed := s₂.slotsUsed }
      rw [State.setFrames_self ht]
    subst hg
    refine Or.inr ⟨q, ⟨(({ U with heap := s₂.heap, slotsUsed := s₂.slotsUsed } : State).setVm s₂.vm), Ls ++ L, c0 + mc, s0 + ms⟩,
      ⟨X.admits, X.cas, X.clock, X.frames, X.room, X.hears, X.method, X.code, (X.here.setHeapUsed s₂.heap s₂.slotsUsed).setVm hW'.alike, X.tail, State.WarmedH.trans X.warmed hW', X.limits, X.bytes, X.same.trans (hsame.setVm s.vm)⟩,
      ⟨g, mk, s₂, L, E, ce, rfl, rfl, hx, hce, hcv, hcl, rfl, hL, rfl, rfl⟩, ?_⟩
    show Steps p.tables e below _ (((({ U with heap := s₂.heap, slotsUsed := s₂.slotsUsed } : State).setVm s₂.vm).setTop g).pushFrame (.throwing q))
    rw [← hs₂]
    exact hsteps
end
variable {p : Program} {l : Launch} {e : Env} {R : Room} {s : State} {m : MethodId} {args : Array Value} {below : List Frame} {meth : Method} {c : Code} {T : State} {H : Heap} {locs : List Loc} {cells slots : Nat}
theorem vx_callVX (X : Stand p l e R s m args below meth c T locs cells slots) (hexec : p.tables.exec = Jvm.exec) {own C : String} {index : Nat} {y : MethodName} {bytes : ByteArray} {maxL : Nat} {ret : Option FieldType} {hh : List (Nat × Nat × Nat × Nat)}
    (hown : s.vm.findClass own = some m.cls) (hlink : (Cond.methodLink own index y).before args s = true) (hinst : (Cond.instanceMethod y).before args s = true) (hsel : (Cond.selects C y y).before args s = true)
    (hcode : (Cond.codeWith y bytes maxL ret hh).before args s = true) (hy : y.cls ≠ "java/lang/invoke/MethodHandle" ∧ y.cls ≠ "java/lang/invoke/VarHandle")
    {W9 : Nat} {Pre : Pt → Array Value → Prop} {Post : Pt → Array Value → Option Value → Pt → Prop} {PostX : Pt → Array Value → Addr → Pt → Prop} (hK : vx_Back l R p e below s args y 3 W9 Pre Post PostX)
    {b : Addr} {cellB : Cell} (hcell : T.heap[b]? = some cellB) (hobj : cellB.vm.isStatics = false) (hcls : s.vm.findClass C = some cellB.cls)
    {g : JFrame} (hg : g.method = m) (hsize : g.locals.size = c.maxLocals) {argsL rest : List Value} (hlen : ∀ sig, parseMethodDescriptor y.desc = some sig → argsL.length = sig.parameters.length)
    (hstack : g.stack = argsL.reverse ++ .ref b :: rest) (hW : 2 * g.monitorRoom + (rest.map fun v => v.category).sum ≤ W9) (hdg : decode c.code g.pc = .ok (.invokevirtual index, 3))
    (hpre : ∀ vm₁, s.WarmedH vm₁ → Pre ⟨T.setVm vm₁, locs, cells, slots⟩ (Value.ref b :: argsL).toArray) :
    (∃ (v : Option Value) (vm₁ : Vm) (B : Pt), s.WarmedH vm₁ ∧ Stand p l e R s m args below meth c B.U B.locs B.cells B.slots ∧ Post ⟨T.setVm vm₁, locs, cells, slots⟩ (Value.ref b :: argsL).toArray v B ∧
      ∀ target, Steps p.tables e below (B.U.setTop { g with pc := g.pc + 3, stack := v.toList ++ rest }) target → Steps p.tables e below (T.setTop g) target) ∨
    (∃ (q : Addr) (vm₁ : Vm) (B : Pt), s.WarmedH vm₁ ∧ Stand p l e R s m args below meth c B.U B.locs B.cells B.slots ∧ PostX ⟨T.setVm vm₁, locs, cells, slots⟩ (Value.ref b :: argsL).toArray q B ∧
      Steps p.tables e below (T.setTop g) ((B.U.setTop { g with stack := rest }).pushFrame (.throwing q))) := by
  obtain ⟨mk, methM, hnamed, hmethM, hstM, habM⟩ := Cond.instanceMethod_spec hinst
  obtain ⟨m8, methM', cM, hn8, hmethM', -, -, -, -, -, -, hsigM⟩ := Cond.codeWith_spec hcode
  cases Option.some.inj (hn8.symm.trans hnamed)
  cases hmethM.symm.trans hmethM'
  obtain ⟨c2, r2, m2, q1, q2, q3, q4, kP, hkP, hkPi⟩ := Cond.selects_spec hsel
  cases hcls.symm.trans q1
  cases (State.methodFound?_of_named hnamed hy).symm.trans q2
  cases hnamed.symm.trans q3
  have hselP : selectMethod e.platform s.vm cellB.cls mk = .method mk := by rw [Launch.admits_selectMethod X.admits]; exact q4
  obtain ⟨vm₁, X₁, hstep₁⟩ := X.invokevirtual hexec hown hlink hnamed hmethM hstM hkP hkPi hy (a := b) (cell := cellB) hcell
    (fun z h => by rw [h] at hobj; cases hobj) hselP hmethM habM hkP hkPi (g := g) hg (argsL := argsL) (rest := rest) (hlen _ hsigM) hstack hdg
  rcases hK m meth c ⟨T.setVm vm₁, locs, cells, slots⟩ { g with stack := rest } (.invokevirtual index) mk (Value.ref b :: argsL).toArray X₁ hg hsize hdg hW (X₁.named hnamed) (hpre vm₁ X₁.warmed) with ⟨v, B, X', hpost, hsteps⟩ | ⟨q, B, X', hpost, hsteps⟩
  · exact Or.inl ⟨v, vm₁, B, X₁.warmed, X', hpost, fun target h => hstep₁ _ fun acts => by rw [doInvoke_state]; exact hsteps.trans h⟩
  · exact Or.inr ⟨q, vm₁, B, X₁.warmed, X', hpost, hstep₁ _ fun acts => by rw [doInvoke_state]; exact hsteps⟩
theorem vx_callSX (X : Stand p l e R s m args below meth c T locs cells slots) (hexec : p.tables.exec = Jvm.exec) {own : String} {index : Nat} {y : MethodName} {bytes : ByteArray} {maxL : Nat} {ret : Option FieldType} {hh : List (Nat × Nat × Nat × Nat)}
    (hown : s.vm.findClass own = some m.cls) (hlink : (Cond.methodLink own index y).before args s = true) (hstat : (Cond.static y).before args s = true) (hinit : (Cond.initialized y.cls).before args s = true)
    (hcode : (Cond.codeWith y bytes maxL ret hh).before args s = true) (hy : y.cls ≠ "java/lang/invoke/MethodHandle" ∧ y.cls ≠ "java/lang/invoke/VarHandle")
    {W9 : Nat} {Pre : Pt → Array Value → Prop} {Post : Pt → Array Value → Option Value → Pt → Prop} {PostX : Pt → Array Value → Addr → Pt → Prop} (hK : vx_Back l R p e below s args y 3 W9 Pre Post PostX)
    {g : JFrame} (hg : g.method = m) (hsize : g.locals.size = c.maxLocals) {argsL rest : List Value} (hlen : ∀ sig, parseMethodDescriptor y.desc = some sig → argsL.length = sig.parameters.length)
    (hstack : g.stack = argsL.reverse ++ rest) (hW : 2 * g.monitorRoom + (rest.map fun v => v.category).sum ≤ W9) (hdg : decode c.code g.pc = .ok (.invokestatic index, 3))
    (hpre : ∀ vm₁, s.WarmedH vm₁ → Pre ⟨T.setVm vm₁, locs, cells, slots⟩ argsL.toArray) :
    (∃ (v : Option Value) (vm₁ : Vm) (B : Pt), s.WarmedH vm₁ ∧ Stand p l e R s m args below meth c B.U B.locs B.cells B.slots ∧ Post ⟨T.setVm vm₁, locs, cells, slots⟩ argsL.toArray v B ∧
      ∀ target, Steps p.tables e below (B.U.setTop { g with pc := g.pc + 3, stack := v.toList ++ rest }) target → Steps p.tables e below (T.setTop g) target) ∨
    (∃ (q : Addr) (vm₁ : Vm) (B : Pt), s.WarmedH vm₁ ∧ Stand p l e R s m args below meth c B.U B.locs B.cells B.slots ∧ PostX ⟨T.setVm vm₁, locs, cells, slots⟩ argsL.toArray q B ∧
      Steps p.tables e below (T.setTop g) ((B.U.setTop { g with stack := rest }).pushFrame (.throwing q))) := by
  obtain ⟨mk, methM, cM, hnamed, hmethM, -, -, -, -, -, -, hsigM⟩ := Cond.codeWith_spec hcode
  have hstatic : methM.isStatic = true := Cond.static_spec hnamed hmethM hstat
  obtain ⟨kP, hkP, -⟩ := className_of_methodNamed hnamed
  have hinitP : kP.init = .initialized := Cond.initialized_spec (findClass_of_methodNamed hnamed) hkP hinit
  obtain ⟨vm₁, X₁, hstep₁⟩ := X.invokestatic hexec hown hlink hnamed hmethM hstatic hkP hinitP hy (g := g) hg (argsL := argsL) (rest := rest) (hlen _ hsigM) hstack hdg
  rcases hK m meth c ⟨T.setVm vm₁, locs, cells, slots⟩ { g with stack := rest } (.invokestatic index) mk argsL.toArray X₁ hg hsize hdg hW (X₁.named hnamed) (hpre vm₁ X₁.warmed) with ⟨v, B, X', hpost, hsteps⟩ | ⟨q, B, X', hpost, hsteps⟩
  · exact Or.inl ⟨v, vm₁, B, X₁.warmed, X', hpost, fun target h => hstep₁ _ fun acts => by rw [doInvoke_state]; exact hsteps.trans h⟩
  · exact Or.inr ⟨q, vm₁, B, X₁.warmed, X', hpost, hstep₁ _ fun acts => by rw [doInvoke_state]; exact hsteps⟩
theorem vx_callVW (X : Stand p l e R s m args below meth c T locs cells slots) (hexec : p.tables.exec = Jvm.exec) {own C : String} {index : Nat} {y : MethodName} {bytes : ByteArray} {maxL : Nat} {ret : Option FieldType} {hh : List (Nat × Nat × Nat × Nat)}
    (hown : s.vm.findClass own = some m.cls) (hlink : (Cond.methodLink own index y).before args s = true) (hinst : (Cond.instanceMethod y).before args s = true) (hsel : (Cond.selects C y y).before args s = true)
    (hcode : (Cond.codeWith y bytes maxL ret hh).before args s = true) (hy : y.cls ≠ "java/lang/invoke/MethodHandle" ∧ y.cls ≠ "java/lang/invoke/VarHandle")
    {W9 : Nat} {Pre : Pt → Array Value → Prop} {Post : Pt → Array Value → Option Value → Pt → Prop} (hK : Back l R p e below s args y 3 W9 Pre Post)
    {b : Addr} {cellB : Cell} (hcell : T.heap[b]? = some cellB) (hobj : cellB.vm.isStatics = false) (hcls : s.vm.findClass C = some cellB.cls)
    {g : JFrame} (hg : g.method = m) (hsize : g.locals.size = c.maxLocals) {argsL rest : List Value} (hlen : ∀ sig, parseMethodDescriptor y.desc = some sig → argsL.length = sig.parameters.length)
    (hstack : g.stack = argsL.reverse ++ .ref b :: rest) (hW : 2 * g.monitorRoom + (rest.map fun v => v.category).sum ≤ W9) (hdg : decode c.code g.pc = .ok (.invokevirtual index, 3))
    (hpre : ∀ vm₁, s.WarmedH vm₁ → Pre ⟨T.setVm vm₁, locs, cells, slots⟩ (Value.ref b :: argsL).toArray) :
    ∃ (v : Option Value) (vm₁ : Vm) (B : Pt), s.WarmedH vm₁ ∧ Stand p l e R s m args below meth c B.U B.locs B.cells B.slots ∧ Post ⟨T.setVm vm₁, locs, cells, slots⟩ (Value.ref b :: argsL).toArray v B ∧
      ∀ target, Steps p.tables e below (B.U.setTop { g with pc := g.pc + 3, stack := v.toList ++ rest }) target → Steps p.tables e below (T.setTop g) target := by
  obtain ⟨mk, methM, hnamed, hmethM, hstM, habM⟩ := Cond.instanceMethod_spec hinst
  obtain ⟨m8, methM', cM, hn8, hmethM', -, -, -, -, -, -, hsigM⟩ := Cond.codeWith_spec hcode
  cases Option.some.inj (hn8.symm.trans hnamed)
  cases hmethM.symm.trans hmethM'
  obtain ⟨c2, r2, m2, q1, q2, q3, q4, kP, hkP, hkPi⟩ := Cond.selects_spec hsel
  cases hcls.symm.trans q1
  cases (State.methodFound?_of_named hnamed hy).symm.trans q2
  cases hnamed.symm.trans q3
  have hselP : selectMethod e.platform s.vm cellB.cls mk = .method mk := by rw [Launch.admits_selectMethod X.admits]; exact q4
  obtain ⟨vm₁, X₁, hstep₁⟩ := X.invokevirtual hexec hown hlink hnamed hmethM hstM hkP hkPi hy (a := b) (cell := cellB) hcell
    (fun z h => by rw [h] at hobj; cases hobj) hselP hmethM habM hkP hkPi (g := g) hg (argsL := argsL) (rest := rest) (hlen _ hsigM) hstack hdg
  obtain ⟨v, B, X', hpost, hsteps⟩ := hK m meth c ⟨T.setVm vm₁, locs, cells, slots⟩ { g with stack := rest } (.invokevirtual index) mk (Value.ref b :: argsL).toArray X₁ hg hsize hdg hW (X₁.named hnamed) (hpre vm₁ X₁.warmed)
  exact ⟨v, vm₁, B, X₁.warmed, X', hpost, fun target h => hstep₁ _ fun acts => by rw [doInvoke_state]; exact hsteps.trans h⟩
abbrev vx_CVW (R : Room) (s : State) (args : Array Value) (own C : String) (index : Nat) (y : MethodName) (bytes : ByteArray) (maxL : Nat) (ret : Option FieldType) (hh : List (Nat × Nat × Nat × Nat)) (ws : List Cond) (rm : Room) (mc ms n : Nat) : Prop :=
  (rm.cells = mc ∧ rm.slots = ms ∧ rm.frames + 1 ≤ R.frames ∧ 8 + (maxL + 11) + rm.locals ≤ R.locals ∧ (∀ w ∈ ws, ∀ (a' : Array Value) (U : State), s.WarmedH U.vm → w.before a' U = true) ∧ Cond.codeWith y bytes maxL ret hh ∈ ws) ∧
  (Cond.codeWith y bytes maxL ret hh).before args s = true ∧ (Cond.initialized y.cls).before args s = true ∧ (y.cls ≠ "java/lang/invoke/MethodHandle" ∧ y.cls ≠ "java/lang/invoke/VarHandle") ∧
  (∀ sig, parseMethodDescriptor y.desc = some sig → n = sig.parameters.length) ∧ (Cond.methodLink own index y).before args s = true ∧ (Cond.instanceMethod y).before args s = true ∧ (Cond.selects C y y).before args s = true
theorem vx_cwVW {own C : String} {index maxL mc ms : Nat} {y : MethodName} {bytes : ByteArray} {ret : Option FieldType} {hh : List (Nat × Nat × Nat × Nat)} {Ts ws ws' : List Cond} {rm : Room} (n : Nat) (ht : ∀ w ∈ Ts, w.before args s = true) (hT : GoodIn Ts (wsV own index C y ws)) (hw : ws = Cond.codeWith y bytes maxL ret hh :: ws') (hrc : rm.cells = mc) (hrs : rm.slots = ms)
    (hd : y.cls = C ∧ y.cls ≠ "java/lang/invoke/MethodHandle" ∧ y.cls ≠ "java/lang/invoke/VarHandle" ∧ (parseMethodDescriptor y.desc).map (fun d => d.parameters.length) = some n) (hR : rm.frames + 1 ≤ R.frames ∧ 8 + (maxL + 11) + rm.locals ≤ R.locals) :
    vx_CVW R s args own C index y bytes maxL ret hh ws rm mc ms n := by
  obtain ⟨hC, hd⟩ := hd
  subst hC
  have ok : ∀ w ∈ wsV own index y.cls y ws, w.before args s = true := fun w h => ht w (hT w h).1
  have hG : GoodIn Ts ws := fun w h => hT w (by unfold wsV; exact List.mem_append_right _ h)
  have hc : Cond.codeWith y bytes maxL ret hh ∈ ws := by rw [hw]; exact List.mem_cons_self
  refine ⟨⟨hrc, hrs, hR.1, hR.2, pay_in ht hG, hc⟩, ht _ (hG _ hc).1, ok _ (by simp [wsV]), ⟨hd.1, hd.2.1⟩, fun sig h => ?_, ok _ (by simp [wsV]), ok _ (by simp [wsV]), ok _ (by simp [wsV])⟩
  have h2 := hd.2.2
  rw [h] at h2
  exact (Option.some.inj h2).symm
theorem vx_runVW {y : MethodName} {bytes cc : ByteArray} {maxL nL mc ms n index : Nat} {ret : Option FieldType} {hh : List (Nat × Nat × Nat × Nat)} {ws : List Cond} {rm : Room} {Pc : Array Value → State → Prop} {Qc : Array Value → State → Outcome → State → Prop} {free : Addr → Prop} {Ts : List Cond} {own C : String} {b : Addr} {As rest : List Value} {g : JFrame}
    (S : CallFix p m c cc nL s args Ts own) (hM : Met l y ws rm Pc Qc mc ms free) (cw : vx_CVW R s args own C index y bytes maxL ret hh ws rm mc ms n) (hp : PreV s H C b Pc As)
    (hg : g.method = m) (hn : As.length = n) (hsize : g.locals.size = nL) (hstack : g.stack = As.reverse ++ .ref b :: rest) (hW : 2 * g.monitorRoom + (rest.map fun v => v.category).sum ≤ 8) (hdg : decode cc g.pc = .ok (.invokevirtual index, 3)) (hf : cells + mc ≤ R.cells ∧ slots + ms ≤ R.slots) :
    va_Run p l e R s m args below meth c H locs cells slots mc ms g rest (Qc (Value.ref b :: As).toArray) free := by
  obtain ⟨⟨hrc, hrs, hfr, hlo, hws, hcw⟩, hcode, hini, hy, hlen, hl, hin, hse⟩ := cw
  have hK : Back l R p e below s args y 3 8 (PreOf R mc ms Pc) (PostOf Qc mc ms free) := va_backW (hh := hh) (bytes := bytes) (maxL := maxL) (ret := ret) hM hp.1 hrc hrs hfr hlo hws hcw (fun a' U hW => word_at hW (Or.inl (by first | rfl | simp [Cond.onTables, Cond.keeps, Cond.steady])) hini)
  obtain ⟨hx, hb, hml, ho, -⟩ := S
  obtain ⟨-, ⟨cellB, hcB, hoB, hclB⟩, hPc⟩ := hp
  intro T hT X
  obtain ⟨v, vm₁, ⟨U', l2, c2, s2⟩, hW₁, X', ⟨g', mk, t, L, e1, e2, hq, h1, hL, h2, h3⟩, st⟩ := vx_callVW X hx (C := C) (hh := hh) (bytes := bytes) (maxL := maxL) (ret := ret) ho hl hin hse hcode hy hK (by rw [hT]; exact hcB) hoB hclB hg (hsize.trans hml.symm) (argsL := As) (rest := rest) (fun sig h => hn.trans (hlen sig h)) hstack hW (by rw [hb]; exact hdg)
    (fun vm₁ hW₁ => ⟨hf.1, hf.2, hPc (T.setVm vm₁) hT hW₁⟩)
  dsimp only [Pt.U, Pt.locs, Pt.cells, Pt.slots] at X' e1 e2 h1 h2 h3 st
  subst h1; subst h2; subst h3
  exact ⟨v, (T.setVm vm₁).calling g' mk (Value.ref b :: As).toArray, t, U', L, hT, X', hL, e1, e2, hq, st⟩
section
variable {y : MethodName} {bytes cc : ByteArray} {maxL nL mc ms n index : Nat} {ret : Option FieldType} {ws : List Cond} {rm : Room} {Pc : Array Value → State → Prop} {Qc : Array Value → State → Outcome → State → Prop} {XC : String → State → State → Prop} {free : Addr → Prop} {Ts : List Cond} {own C : String} {b : Addr} {As rest : List Value} {g : JFrame}
theorem vx_runVX {hh : List (Nat × Nat × Nat × Nat)} (S : CallFix p m c cc nL s args Ts own) (hM : vx_Met l y ws rm Pc Qc XC mc ms free) (cw : vx_CVW R s args own C index y bytes maxL ret hh ws rm mc ms n) (hp : PreV s H C b Pc As)
    (hg : g.method = m) (hn : As.length = n) (hsize : g.locals.size = nL) (hstack : g.stack = As.reverse ++ .ref b :: rest) (hW : 2 * g.monitorRoom + (rest.map fun v => v.category).sum ≤ 8) (hdg : decode cc g.pc = .ok (.invokevirtual index, 3)) (hf : cells + mc ≤ R.cells ∧ slots + ms ≤ R.slots) :
    vx_Run p l e R s m args below meth c H locs cells slots mc ms g rest (Qc (Value.ref b :: As).toArray) XC free := by
  obtain ⟨⟨hrc, hrs, hfr, hlo, hws, hcw⟩, hcode, hini, hy, hlen, hl, hin, hse⟩ := cw
  have hK : vx_Back l R p e below s args y 3 8 (PreOf R mc ms Pc) (PostOf Qc mc ms free) (vx_Post XC mc ms free) := vx_backW (hh := hh) (bytes := bytes) (maxL := maxL) (ret := ret) hM hp.1 hrc hrs hfr hlo hws hcw (fun a' U hW => word_at hW (Or.inl (by first | rfl | simp [Cond.onTables, Cond.keeps, Cond.steady])) hini)
  obtain ⟨hx, hb, hml, ho, -⟩ := S
  obtain ⟨-, ⟨cellB, hcB, hoB, hclB⟩, hPc⟩ := hp
  intro T hT X
  rcases vx_callVX X hx (C := C) (hh := hh) (bytes := bytes) (maxL := maxL) (ret := ret) ho hl hin hse hcode hy hK (by rw [hT]; exact hcB) hoB hclB hg (hsize.trans hml.symm) (argsL := As) (rest := rest) (fun sig h => hn.trans (hlen sig h)) hstack hW (by rw [hb]; exact hdg)
    (fun vm₁ hW₁ => ⟨hf.1, hf.2, hPc (T.setVm vm₁) hT hW₁⟩) with ⟨v, vm₁, ⟨U', l2, c2, s2⟩, hW₁, X', ⟨g', mk, t, L, e1, e2, hq, h1, hL, h2, h3⟩, st⟩ | ⟨q, vm₁, ⟨U', l2, c2, s2⟩, hW₁, X', ⟨g', mk, t, L, E, ce, e1, e2, hq, hce, hcv, hcl, h1, hL, h2, h3⟩, st⟩
  · dsimp only [Pt.U, Pt.locs, Pt.cells, Pt.slots] at X' e1 e2 h1 h2 h3 st
    subst h1; subst h2; subst h3
    exact Or.inl ⟨v, (T.setVm vm₁).calling g' mk (Value.ref b :: As).toArray, t, U', L, hT, X', hL, e1, e2, hq, st⟩
  · dsimp only [Pt.U, Pt.locs, Pt.cells, Pt.slots] at X' e1 e2 h1 h2 h3 st hcl
    subst h1; subst h2; subst h3
    exact Or.inr ⟨q, (T.setVm vm₁).calling g' mk (Value.ref b :: As).toArray, t, U', L, E, ce, hT, X', hL, e1, e2, hq, hce, hcv, vx_cls hW₁ hcl, st⟩
theorem vx_runSX {hh : List (Nat × Nat × Nat × Nat)} (S : CallFix p m c cc nL s args Ts own) (hM : vx_Met l y ws rm Pc Qc XC mc ms free) (cw : vx_CSW R s args own index y bytes maxL ret hh ws rm mc ms n) (hp : PreS s H Pc As)
    (hg : g.method = m) (hn : As.length = n) (hsize : g.locals.size = nL) (hstack : g.stack = As.reverse ++ rest) (hW : 2 * g.monitorRoom + (rest.map fun v => v.category).sum ≤ 8) (hdg : decode cc g.pc = .ok (.invokestatic index, 3)) (hf : cells + mc ≤ R.cells ∧ slots + ms ≤ R.slots) :
    vx_Run p l e R s m args below meth c H locs cells slots mc ms g rest (Qc As.toArray) XC free := by
  obtain ⟨⟨hrc, hrs, hfr, hlo, hws, hcw⟩, hcode, hini, hy, hlen, hl, hstt⟩ := cw
  have hK : vx_Back l R p e below s args y 3 8 (PreOf R mc ms Pc) (PostOf Qc mc ms free) (vx_Post XC mc ms free) := vx_backW (hh := hh) (bytes := bytes) (maxL := maxL) (ret := ret) hM hp.1 hrc hrs hfr hlo hws hcw (fun a' U hW => word_at hW (Or.inl (by first | rfl | simp [Cond.onTables, Cond.keeps, Cond.steady])) hini)
  obtain ⟨hx, hb, hml, ho, -⟩ := S
  intro T hT X
  rcases vx_callSX X hx (hh := hh) (bytes := bytes) (maxL := maxL) (ret := ret) ho hl hstt hini hcode hy hK hg (hsize.trans hml.symm) (argsL := As) (rest := rest) (fun sig h => hn.trans (hlen sig h)) hstack hW (by rw [hb]; exact hdg)
    (fun vm₁ hW₁ => ⟨hf.1, hf.2, hp.2 (T.setVm vm₁) hT hW₁⟩) with ⟨v, vm₁, ⟨U', l2, c2, s2⟩, hW₁, X', ⟨g', mk, t, L, e1, e2, hq, h1, hL, h2, h3⟩, st⟩ | ⟨q, vm₁, ⟨U', l2, c2, s2⟩, hW₁, X', ⟨g', mk, t, L, E, ce, e1, e2, hq, hce, hcv, hcl, h1, hL, h2, h3⟩, st⟩
  · dsimp only [Pt.U, Pt.locs, Pt.cells, Pt.slots] at X' e1 e2 h1 h2 h3 st
    subst h1; subst h2; subst h3
    exact Or.inl ⟨v, (T.setVm vm₁).calling g' mk As.toArray, t, U', L, hT, X', hL, e1, e2, hq, st⟩
  · dsimp only [Pt.U, Pt.locs, Pt.cells, Pt.slots] at X' e1 e2 h1 h2 h3 st hcl
    subst h1; subst h2; subst h3
    exact Or.inr ⟨q, (T.setVm vm₁).calling g' mk As.toArray, t, U', L, E, ce, hT, X', hL, e1, e2, hq, hce, hcv, vx_cls hW₁ hcl, st⟩
end
end VXH
theorem vx_ofWH {l : Launch} {y : MethodName} {ws ws' : List Cond} {rm : Room} {Pc : Array Value → State → Prop} {Qc : Array Value → State → Outcome → State → Prop} {XC : String → State → State → Prop} {mc ms : Nat} {free : Addr → Prop} {cc : ByteArray} {maxL : Nat} {ret : Option FieldType} {hh : List (Nat × Nat × Nat × Nat)}
    (hy : plainName y.cls = true) (hw : ws = Cond.codeWith y cc maxL ret hh :: ws')
    (body : ∀ p e s m args below meth c s₁, BodyLoose p l y (headSpec ws rm) cc maxL ret e s m args below meth c s₁ → c.maxLocals = maxL → Pc args s →
      W p l e (headSpec ws rm).room s m args below meth c s.heap [] 0 0 (vx_MQ below Qc XC args s mc ms free) (entryFrame m args maxL)) : vx_Met l y ws rm Pc Qc XC mc ms free := by
  refine MetFree.of_bodyS (code := cc) (maxLocals := maxL) (ret := ret) hy ?_ ?_
  · intro args s m h hn
    obtain ⟨m9, meth, c, hn9, h1, h2, h3, h4, -, h5, h6, -⟩ := Cond.codeWith_spec (atoms_spec (ws := ws) h _ (by rw [hw]; exact List.mem_cons_self))
    cases hn.symm.trans hn9
    exact ⟨meth, c, h1, h2, h3, h4, h5, h6⟩
  · intro p e s m args below meth c s₁ B hml hP _
    have hh0 : s₁.heap = s.heap := by rw [B.state]; rfl
    obtain ⟨t, a1, o, b1, b2, b3⟩ := body p e s m args below meth c s₁ B hml hP s₁ hh0 (Stand.of_body B)
    exact ⟨t, o, a1, b1, b2, b3⟩
/-! ===== END ===== -/
end
section
/-! the memory: (code, slot) to int; every thing of class and reference is a code below 358 -/
abbrev xw_M : Type := Nat → Nat → Int32
def xw_st (h : xw_M) (k j : Nat) (v : Int32) : xw_M := fun a => if a = k then upd (h a) j v else h a
/-- the kind of a code: 0 Channel, 1 Clock, 2 Fiber, 3 Queue, 4 Step, 5 WaterFibers, 6 the reference, 7 ints (8), 8 channels (4), 9 fibers (8), 10 steps (12), 11 ints (96), 12 ints (204); 13 ints (8) and 14 ints (7), which a call makes for itself; 15 longs (1), each an int -/
def xw_kr (r : Nat) : Nat := if r = 0 then 1 else if r = 1 then 8 else if r = 2 then 9 else if r = 3 then 3 else if r = 4 then 7 else if r < 40 then (if (r - 5) % 7 = 0 then 0 else if (r - 5) % 7 % 2 = 1 then 3 else 7) else (if (r - 40) % 15 = 0 then 2 else if (r - 40) % 15 = 1 then 10 else 4)
def xw_kd (k : Nat) : Nat := if k < 175 then xw_kr k else if k < 350 then xw_kr (k - 175) else if k = 350 then 5 else if k = 351 then 6 else if k = 352 then 7 else if k < 356 then 11 else if k < 358 then 12 else if k = 358 then 15 else if k = 359 then 13 else if k = 360 then 14 else 99
def xw_fs (ad : Nat → Nat) (κ k : Nat) (g : Nat → Int32) : List Value := match κ with
  | 0 => [.int (g 0), .ref (ad (k + 1)), .ref (ad (k + 3)), .ref (ad (k + 5))]
  | 1 => [.ref (ad (k + 1)), .ref (ad (k + 2)), .ref (ad (k + 33)), .ref (ad (k + 160)), .ref (ad (k + 3)), .int (g 5), .int (g 6), .int (g 7), .int (g 8)]
  | 2 => [.int (g 0), .int (g 1), .int (g 2), .int (g 3), .int (g 4), .int (g 5), .int (g 6), .int (g 7), .ref (ad (k + 1)), .ref (ad (k + 14))]
  | 3 => [.ref (ad (k + 1)), .int (g 1)]
  | 4 => [.int (g 0), .int (g 1), .int (g 2), .int (g 3)]
  | 5 => [.ref (ad 0), .ref (ad 175)]
  | _ => [.int (g 0), .int (g 1), .int (g 2), .ref (ad (k + 1)), .ref (ad (k + 2)), .ref (ad (k + 3)), .ref (ad (k + 4)), .ref (ad (k + 5)), .ref (ad (k + 6))]
/-- where the machine has all this: the classes' numbers and slots, the array classes, the addresses of the codes, where the new cells begin, how many codes there are -/
abbrev xw_G : Type := (Nat → ClassId) × (Nat → Nat → Nat) × (Nat → ClassId) × (Nat → Nat) × Nat × Nat
abbrev xg_D (G : xw_G) : va_G := (G.1, G.2.1)
abbrev xg_T (G : xw_G) : Nat → ClassId := G.2.2.1
abbrev xg_ad (G : xw_G) : Nat → Nat := G.2.2.2.1
abbrev xg_z (G : xw_G) : Nat := G.2.2.2.2.1
abbrev xg_N (G : xw_G) : Nat := G.2.2.2.2.2
abbrev xg_A (G : xw_G) : Nat → Prop := fun q => xg_z G ≤ q
def xw_ct (T : Nat → ClassId) (ad : Nat → Nat) (κ k : Nat) (g : Nat → Int32) : va_E := match κ with
  | 7 => .inl (T 0, 8, .inl g)
  | 8 => .inl (T 1, 4, .inr (.inr (.inr (.inr (fun i => some (ad (k + 4 + 7 * i)))))))
  | 9 => .inl (T 2, 8, .inr (.inr (.inr (.inr (fun i => some (ad (k + 38 + 15 * i)))))))
  | 10 => .inl (T 3, 12, .inr (.inr (.inr (.inr (fun i => some (ad (k + 1 + i)))))))
  | 11 => .inl (T 0, 96, .inl g)
  | 12 => .inl (T 0, 204, .inl g)
  | 13 => .inl (T 0, 8, .inl g)
  | 14 => .inl (T 0, 7, .inl g)
  | 15 => .inl (T 4, 1, .inr (.inl (fun j => if j = 0 then (g 0).toInt64 else 0)))
  | κ => .inr (κ, xw_fs ad κ k g)
abbrev xw_ce (G : xw_G) (h : xw_M) (k : Nat) : va_E := xw_ct (xg_T G) (xg_ad G) (xw_kd k) k (h k)
def xw_ws (G : xw_G) (h : xw_M) : va_W := (List.range (xg_N G)).map (fun k => (xg_ad G k, xw_ce G h k))
def xw_P (G : xw_G) (h : xw_M) (H : Heap) : Prop := va_P (xg_D G) vwCl (xw_ws G h) H
def xw_tys (G : xw_G) : List (ClassId × FieldType) := [(xg_T G 0, .int), (xg_T G 1, .object RX0), (xg_T G 2, .object RX2), (xg_T G 3, .object RX4), (xg_T G 4, .long)]
def xw_ok (G : xw_G) : Prop := 359 ≤ xg_N G ∧ (∀ i j, i < xg_N G → j < xg_N G → xg_ad G i = xg_ad G j → i = j) ∧ ∀ k, k < xg_N G → xg_z G ≤ xg_ad G k
theorem xw_lt {k κ : Nat} (h : xw_kd k = κ) (hκ : κ < 13) : k < 358 := by
  rcases Nat.lt_or_ge k 358 with q | q
  · exact q
  · exfalso
    unfold xw_kd at h
    rw [if_neg (by omega), if_neg (by omega), if_neg (by omega), if_neg (by omega), if_neg (by omega), if_neg (by omega), if_neg (by omega)] at h
    split at h
    · omega
    · split at h
      · omega
      · split at h <;> omega
theorem xw_get {G : xw_G} {h : xw_M} {k : Nat} (hk : k < xg_N G) : (xw_ws G h)[k]? = some (xg_ad G k, xw_ce G h k) := by
  unfold xw_ws
  rw [List.getElem?_map, List.getElem?_range hk]
  rfl
theorem xw_at {G : xw_G} {h : xw_M} {k : Nat} {q : Nat × va_E} (hq : (xw_ws G h)[k]? = some q) : k < xg_N G ∧ q = (xg_ad G k, xw_ce G h k) := by
  have hl : k < xg_N G := by
    have h1 := (List.getElem?_eq_some_iff.mp hq).1
    unfold xw_ws at h1
    rw [List.length_map, List.length_range] at h1
    exact h1
  rw [xw_get hl] at hq
  exact ⟨hl, (Option.some.inj hq).symm⟩
theorem xw_D {G : xw_G} (hG : xw_ok G) (h : xw_M) : va_D (xg_A G) (xw_ws G h) := by
  refine ⟨fun i j p q hi hj hpq => ?_, fun k q hk => ?_⟩
  · obtain ⟨h1, rfl⟩ := xw_at hi
    obtain ⟨h2, rfl⟩ := xw_at hj
    exact hG.2.1 i j h1 h2 hpq
  · obtain ⟨h1, rfl⟩ := xw_at hk
    exact hG.2.2 k h1
theorem xw_set {G : xw_G} {h h' : xw_M} {k : Nat} {e : va_E} (hk : k < xg_N G) (he : xw_ce G h' k = e) (ho : ∀ j, j ≠ k → xw_ce G h' j = xw_ce G h j) : (xw_ws G h).set k (xg_ad G k, e) = xw_ws G h' := by
  apply List.ext_getElem?
  intro j
  by_cases hj : j = k
  · subst hj
    have hl : j < (xw_ws G h).length := by unfold xw_ws; rw [List.length_map, List.length_range]; exact hk
    rw [List.getElem?_set_self hl, xw_get hk, he]
  · rw [List.getElem?_set_ne (Ne.symm hj)]
    rcases Nat.lt_or_ge j (xg_N G) with q | q
    · rw [xw_get q, xw_get q, ho j hj]
    · have l1 : (xw_ws G h).length ≤ j := by unfold xw_ws; rw [List.length_map, List.length_range]; exact q
      have l2 : (xw_ws G h').length ≤ j := by unfold xw_ws; rw [List.length_map, List.length_range]; exact q
      rw [List.getElem?_eq_none l1, List.getElem?_eq_none l2]
theorem xw_st_eq (h : xw_M) (k j : Nat) (v : Int32) : xw_st h k j v k = upd (h k) j v := by unfold xw_st; rw [if_pos rfl]
theorem xw_st_ne (h : xw_M) (k j : Nat) (v : Int32) {a : Nat} (ha : a ≠ k) : xw_st h k j v a = h a := by unfold xw_st; rw [if_neg ha]
theorem xw_set_st {G : xw_G} {h : xw_M} {k j : Nat} {v : Int32} {e : va_E} (hk : k < xg_N G) (he : xw_ct (xg_T G) (xg_ad G) (xw_kd k) k (upd (h k) j v) = e) : (xw_ws G h).set k (xg_ad G k, e) = xw_ws G (xw_st h k j v) :=
  xw_set hk (by unfold xw_ce; rw [xw_st_eq]; exact he) (fun a ha => by unfold xw_ce; rw [xw_st_ne h k j v ha])
theorem xw_adlt {G : xw_G} {h : xw_M} {H : Heap} (hP : xw_P G h H) {k : Nat} (hk : k < xg_N G) : xg_ad G k < H.size := (hP k _ (xw_get hk)).lt
theorem xw_zlt {G : xw_G} {h : xw_M} {H : Heap} (hG : xw_ok G) (hP : xw_P G h H) : xg_z G ≤ H.size := Nat.le_of_lt (Nat.lt_of_le_of_lt (hG.2.2 0 (Nat.lt_of_lt_of_le (by decide) hG.1)) (xw_adlt hP (Nat.lt_of_lt_of_le (by decide) hG.1)))
/-! the good words of the tables -/
def lw_g : List Cond := lw_tbl.filter goodWord
theorem lw_g_in {w : Cond} (h : w ∈ lw_tbl) (hg : goodWord w = true) : w ∈ lw_g := List.mem_filter.mpr ⟨h, hg⟩
theorem lw_g_good {ws : List Cond} (h : ∀ w ∈ ws, w ∈ lw_g) : GoodIn lw_g ws := fun w hw => ⟨h w hw, good_of_word (List.mem_filter.mp (h w hw)).2⟩
theorem lw_g_tbl {w : Cond} (h : w ∈ lw_g) : w ∈ lw_tbl := (List.mem_filter.mp h).1
/-! what a throw, and its catching, needs beside the good words -/
def xw_str : List (String × Nat × String) := [("WaterFibers", 245, "there is no such channel"), ("WaterFibers", 152, "there is no such drop"), ("WaterFibers", 250, "there is no such fiber"), ("WaterFibers", 21, "places is not 1 to 4"), ("WaterFibers", 32, "there are 4 channels"), ("WaterFibers", 47, "there are 8 fibers"), ("WaterFibers", 57, "there is no such kind, or one or two does not fit it"), ("WaterFibers", 68, "the fiber has 12 steps"), ("WaterFibers", 94, "value is not -999 to 999"), ("WaterFibers", 100, "the channel has no room"), ("WaterFibers", 252, "turns is not 1 to 60")]
def xw_exn : List String := ["java/lang/IllegalArgumentException", "java/lang/IllegalStateException", "java/lang/IndexOutOfBoundsException"]
def xw_X (A : Nat → Prop) (U : State) (H : Heap) : Prop :=
  (∀ q ∈ xw_str, ∃ a : Nat, vk_R q.1 q.2.1 q.2.2 a U) ∧ (∀ x ∈ xw_exn, va_Nw (.castable x x) U) ∧ (∀ x ∈ xw_exn, ∀ y ∈ xw_exn, x ≠ y → va_Nc x y U) ∧ vx_Zq Bundle.tN "UNASSIGNED_STACK" Bundle.steD A U H ∧ vx_Zq Bundle.tN "SUPPRESSED_SENTINEL" Bundle.listD A U H
theorem xw_X.warm {A : Nat → Prop} {s U : State} {H H1 : Heap} (hX : xw_X A s H) (hW : s.WarmedH U.vm) (hk : ∀ a : Nat, a < H.size → ¬ A a → H1[a]? = H[a]?) : xw_X A U H1 :=
  ⟨fun q hq => (hX.1 q hq).imp fun a ha => ha.warm hW, fun x hx => va_Nw.warmC hW (hX.2.1 x hx), fun x hx y hy hn => (hX.2.2.1 x hx y hy hn).moved hW.alike, (hX.2.2.2.1.moved hW.alike).kept hk, (hX.2.2.2.2.moved hW.alike).kept hk⟩
theorem xw_X.same {A : Nat → Prop} {s U : State} {H : Heap} (hX : xw_X A s H) (hv : U.vm = s.vm) : xw_X A U H :=
  ⟨fun q hq => (hX.1 q hq).imp fun a ha => ha.same hv, fun x hx => va_Nw.same rfl hv.symm (hX.2.1 x hx), fun x hx y hy hn => (hX.2.2.1 x hx y hy hn).moved (by rw [hv]; exact Vm.Alike.refl _), hX.2.2.2.1.moved (by rw [hv]; exact Vm.Alike.refl _), hX.2.2.2.2.moved (by rw [hv]; exact Vm.Alike.refl _)⟩
/-- a method's start: the world, the tables -/
def xw_S (G : xw_G) (h : xw_M) (U : State) : Prop := xw_P G h U.heap ∧ va_K (xg_D G) vwCl (xw_tys G) U ∧ xw_ok G ∧ xw_X (xg_A G) U U.heap
theorem xw_blind {G : xw_G} {h : xw_M} {av : List Value} : FrameBlind (va_Pc av (xw_S G h)) := by
  intro a U g mk q
  obtain ⟨q1, q2, q3, q4, q5⟩ := q
  exact ⟨q1, q2, va_K.moved (u := U) (U := U.calling g mk a) (Vm.Alike.refl U.vm) q3, q4, xw_X.same (s := U) (U := U.calling g mk a) q5 rfl⟩
/-! the locals: what is known of each -/
def xj_L (ls : Array Slot) (nL : Nat) (lv : List (Option Value)) : Prop := ls.size = nL ∧ lv_wf ls ∧ ∀ (i : Nat) (v : Value), lv[i]? = some (some v) → ls[i]? = some (.val v)
end
section
section XJ
variable {p : Program} {l : Launch} {e : Env} {R : Room} {s : State} {m : MethodId} {args : Array Value} {below : List Frame} {meth : Method} {c : Code} {G : xw_G} {nL cells slots : Nat} {Q : State → Prop}
variable {cc : ByteArray} {own : String} {pc : Nat} {h : xw_M} {lv : List (Option Value)} {st : List Value}
/-- what stays in a method's walk: the machine, the code, the words, the tables -/
def xj_C (p : Program) (s : State) (m : MethodId) (args : Array Value) (meth : Method) (c : Code) (G : xw_G) (own : String) (cc : ByteArray) (nL : Nat) : Prop :=
  p.tables.exec = Jvm.exec ∧ c.code = cc ∧ c.maxLocals = nL ∧ s.vm.findClass own = some m.cls ∧ (∀ w ∈ lw_g, w.before args s = true) ∧ va_K (xg_D G) vwCl (xw_tys G) s ∧ xw_ok G ∧ xw_X (xg_A G) s s.heap ∧ meth.locks = false
/-- from the place pc, with this memory, these locals, this stack, a state with Q is reached -/
def xj_X (p : Program) (l : Launch) (e : Env) (R : Room) (s : State) (m : MethodId) (args : Array Value) (below : List Frame) (meth : Method) (c : Code) (G : xw_G) (nL cells slots : Nat) (Q : State → Prop) (h : xw_M) (lv : List (Option Value)) (pc : Nat) (st : List Value) : Prop :=
  ∀ (H : Heap) (locs : List Loc) (ls : Array Slot), xw_P G h H → va_S (xg_A G) s.heap H locs → xj_L ls nL lv → W p l e R s m args below meth c H locs cells slots Q (F0 m pc ls st)
def xj_p (lv : List (Option Value)) : List (Nat × Value) := (List.range lv.length).filterMap (fun i => (lv[i]?.join).map (fun v => (i, v)))
theorem xj_p_in {i : Nat} {v : Value} : (i, v) ∈ xj_p lv ↔ lv[i]? = some (some v) := by
  unfold xj_p
  rw [List.mem_filterMap]
  constructor
  · rintro ⟨j, hj, hv⟩
    cases hl : lv[j]? with
    | none => rw [hl] at hv; cases hv
    | some x =>
      cases x with
      | none => rw [hl] at hv; cases hv
      | some y => rw [hl] at hv; cases hv; exact hl
  · intro hv
    refine ⟨i, List.mem_range.mpr (List.getElem?_eq_some_iff.mp hv).1, ?_⟩
    rw [hv]; rfl
theorem xj_L.has {ls : Array Slot} (hL : xj_L ls nL lv) : lv_has ls nL (xj_p lv) := ⟨hL.1, hL.2.1, fun q hq => hL.2.2 q.1 q.2 (xj_p_in.mp hq)⟩
/-- no long or double lies just below the place i -/
def xj_c (lv : List (Option Value)) (i : Nat) : Bool := match i with
  | 0 => true
  | j + 1 => match lv[j]? with
    | some (some v) => !(v.category == 2)
    | _ => true
theorem xj_c_no {i j : Nat} {v : Value} (hc : xj_c lv i = true) (hj : lv[j]? = some (some v)) (e : j + 1 = i) : (v.category == 2) = false := by
  subst e
  simp only [xj_c, hj] at hc
  simpa using hc
theorem xj_L.set1 {ls : Array Slot} {i : Nat} {v : Value} {L : List (Nat × Value)} (hc : xj_c lv i = true) (hL : L = (i, v) :: (xj_p lv).filter (fun q => !(q.1 == i) && !(q.1 + 1 == i && q.2.category == 2))) (hls : lv_has ls nL L) : xj_L ls nL (lv.set i (some v)) := by
  refine ⟨hls.1, hls.2.1, fun j u hj => hls.2.2 (j, u) ?_⟩
  rw [hL]
  by_cases hji : j = i
  · subst hji
    have hlt : j < lv.length := by
      have := (List.getElem?_eq_some_iff.mp hj).1
      rwa [List.length_set] at this
    rw [List.getElem?_set_self hlt] at hj
    cases hj
    exact List.mem_cons_self
  · rw [List.getElem?_set_ne (Ne.symm hji)] at hj
    refine List.mem_cons_of_mem _ (List.mem_filter.mpr ⟨xj_p_in.mpr hj, ?_⟩)
    by_cases e : j + 1 = i
    · simp [hji, e, xj_c_no hc hj e]
    · simp [hji, e]
theorem xj_L.set2 {ls : Array Slot} {i : Nat} {v : Value} {L : List (Nat × Value)} (hc : xj_c lv i = true) (hL : L = (i, v) :: (xj_p lv).filter (fun q => !(q.1 == i) && (!(q.1 == i + 1) && !(q.1 + 1 == i && q.2.category == 2)))) (hls : lv_has ls nL L) : xj_L ls nL ((lv.set i (some v)).set (i + 1) none) := by
  refine ⟨hls.1, hls.2.1, fun j u hj => hls.2.2 (j, u) ?_⟩
  rw [hL]
  by_cases hj1 : j = i + 1
  · subst hj1
    have hlt : i + 1 < (lv.set i (some v)).length := by
      have := (List.getElem?_eq_some_iff.mp hj).1
      rwa [List.length_set] at this
    rw [List.getElem?_set_self hlt] at hj
    cases hj
  rw [List.getElem?_set_ne (Ne.symm hj1)] at hj
  by_cases hji : j = i
  · subst hji
    have hlt : j < lv.length := by
      have := (List.getElem?_eq_some_iff.mp hj).1
      rwa [List.length_set] at this
    rw [List.getElem?_set_self hlt] at hj
    cases hj
    exact List.mem_cons_self
  · rw [List.getElem?_set_ne (Ne.symm hji)] at hj
    refine List.mem_cons_of_mem _ (List.mem_filter.mpr ⟨xj_p_in.mpr hj, ?_⟩)
    by_cases e : j + 1 = i
    · simp [hji, hj1, e, xj_c_no hc hj e]
    · simp [hji, hj1, e]
theorem xr_iconst (C : xj_C p s m args meth c G own cc nL) {n : Int} {v : Int32} (d : decode cc pc = .ok (.iconst n, 1)) (hv : Int32.ofInt n = v) (K : xj_X p l e R s m args below meth c G nL cells slots Q h lv (pc + 1) (.int v :: st)) : xj_X p l e R s m args below meth c G nL cells slots Q h lv pc st := fun H locs ls hP hS hL => lv_iconst C.1 C.2.1 d hv (K H locs ls hP hS hL)
theorem xr_bipush (C : xj_C p s m args meth c G own cc nL) {n : Int} {v : Int32} (d : decode cc pc = .ok (.bipush n, 2)) (hv : (Int8.ofInt n).toInt32 = v) (K : xj_X p l e R s m args below meth c G nL cells slots Q h lv (pc + 2) (.int v :: st)) : xj_X p l e R s m args below meth c G nL cells slots Q h lv pc st := fun H locs ls hP hS hL => lv_bipush C.1 C.2.1 d hv (K H locs ls hP hS hL)
theorem xr_sipush (C : xj_C p s m args meth c G own cc nL) {n : Int} {v : Int32} (d : decode cc pc = .ok (.sipush n, 3)) (hv : (Int16.ofInt n).toInt32 = v) (K : xj_X p l e R s m args below meth c G nL cells slots Q h lv (pc + 3) (.int v :: st)) : xj_X p l e R s m args below meth c G nL cells slots Q h lv pc st := fun H locs ls hP hS hL => lv_sipush C.1 C.2.1 d hv (K H locs ls hP hS hL)
theorem xr_iload_n (C : xj_C p s m args meth c G own cc nL) {k : Fin 4} {x : Int32} (d : decode cc pc = .ok (.iload_n k, 1)) (hl : lv[(k : Nat)]? = some (some (.int x))) (K : xj_X p l e R s m args below meth c G nL cells slots Q h lv (pc + 1) (.int x :: st)) : xj_X p l e R s m args below meth c G nL cells slots Q h lv pc st := fun H locs ls hP hS hL => lv_iload_n C.1 C.2.1 d rfl (hL.2.2 _ _ hl) (K H locs ls hP hS hL)
theorem xr_aload_n (C : xj_C p s m args meth c G own cc nL) {k : Fin 4} {x : Nat} (d : decode cc pc = .ok (.aload_n k, 1)) (hl : lv[(k : Nat)]? = some (some (.ref x))) (K : xj_X p l e R s m args below meth c G nL cells slots Q h lv (pc + 1) (.ref x :: st)) : xj_X p l e R s m args below meth c G nL cells slots Q h lv pc st := fun H locs ls hP hS hL => lv_aload_n C.1 C.2.1 d rfl (hL.2.2 _ _ hl) (K H locs ls hP hS hL)
theorem xr_lload_n (C : xj_C p s m args meth c G own cc nL) {k : Fin 4} {x : Int64} (d : decode cc pc = .ok (.lload_n k, 1)) (hl : lv[(k : Nat)]? = some (some (.long x))) (K : xj_X p l e R s m args below meth c G nL cells slots Q h lv (pc + 1) (.long x :: st)) : xj_X p l e R s m args below meth c G nL cells slots Q h lv pc st := fun H locs ls hP hS hL => lv_lload_n C.1 C.2.1 d rfl (hL.2.2 _ _ hl) (K H locs ls hP hS hL)
theorem xr_iload (C : xj_C p s m args meth c G own cc nL) {i : Nat} {x : Int32} (d : decode cc pc = .ok (.iload i, 2)) (hl : lv[i]? = some (some (.int x))) (K : xj_X p l e R s m args below meth c G nL cells slots Q h lv (pc + 2) (.int x :: st)) : xj_X p l e R s m args below meth c G nL cells slots Q h lv pc st := fun H locs ls hP hS hL => lv_iload C.1 C.2.1 d (hL.2.2 _ _ hl) (K H locs ls hP hS hL)
theorem xr_aload (C : xj_C p s m args meth c G own cc nL) {i : Nat} {x : Nat} (d : decode cc pc = .ok (.aload i, 2)) (hl : lv[i]? = some (some (.ref x))) (K : xj_X p l e R s m args below meth c G nL cells slots Q h lv (pc + 2) (.ref x :: st)) : xj_X p l e R s m args below meth c G nL cells slots Q h lv pc st := fun H locs ls hP hS hL => lv_aload C.1 C.2.1 d (hL.2.2 _ _ hl) (K H locs ls hP hS hL)
theorem xr_lload (C : xj_C p s m args meth c G own cc nL) {i : Nat} {x : Int64} (d : decode cc pc = .ok (.lload i, 2)) (hl : lv[i]? = some (some (.long x))) (K : xj_X p l e R s m args below meth c G nL cells slots Q h lv (pc + 2) (.long x :: st)) : xj_X p l e R s m args below meth c G nL cells slots Q h lv pc st := fun H locs ls hP hS hL => lv_lload C.1 C.2.1 d (hL.2.2 _ _ hl) (K H locs ls hP hS hL)
theorem xr_dload (C : xj_C p s m args meth c G own cc nL) {i : Nat} {x : UInt64} (d : decode cc pc = .ok (.dload i, 2)) (hl : lv[i]? = some (some (.double x))) (K : xj_X p l e R s m args below meth c G nL cells slots Q h lv (pc + 2) (.double x :: st)) : xj_X p l e R s m args below meth c G nL cells slots Q h lv pc st := fun H locs ls hP hS hL => lv_dload C.1 C.2.1 d (hL.2.2 _ _ hl) (K H locs ls hP hS hL)
theorem xr_istore_n (C : xj_C p s m args meth c G own cc nL) {k : Fin 4} {x : Int32} (d : decode cc pc = .ok (.istore_n k, 1)) (hc : xj_c lv (k : Nat) = true) (hn : (k : Nat) < nL) (K : xj_X p l e R s m args below meth c G nL cells slots Q h (lv.set (k : Nat) (some (.int x))) (pc + 1) st) : xj_X p l e R s m args below meth c G nL cells slots Q h lv pc (.int x :: st) := fun H locs ls hP hS hL => lv_istore_n C.1 C.2.1 d rfl hL.has hn rfl (fun ls hl => K H locs ls hP hS (xj_L.set1 hc rfl hl))
theorem xr_istore (C : xj_C p s m args meth c G own cc nL) {i : Nat} {x : Int32} (d : decode cc pc = .ok (.istore i, 2)) (hc : xj_c lv i = true) (hn : i < nL) (K : xj_X p l e R s m args below meth c G nL cells slots Q h (lv.set i (some (.int x))) (pc + 2) st) : xj_X p l e R s m args below meth c G nL cells slots Q h lv pc (.int x :: st) := fun H locs ls hP hS hL => lv_istore C.1 C.2.1 d hL.has hn rfl (fun ls hl => K H locs ls hP hS (xj_L.set1 hc rfl hl))
theorem xr_astore_n (C : xj_C p s m args meth c G own cc nL) {k : Fin 4} {x : Nat} (d : decode cc pc = .ok (.astore_n k, 1)) (hc : xj_c lv (k : Nat) = true) (hn : (k : Nat) < nL) (K : xj_X p l e R s m args below meth c G nL cells slots Q h (lv.set (k : Nat) (some (.ref x))) (pc + 1) st) : xj_X p l e R s m args below meth c G nL cells slots Q h lv pc (.ref x :: st) := fun H locs ls hP hS hL => lv_astore_n C.1 C.2.1 d rfl hL.has hn rfl (fun ls hl => K H locs ls hP hS (xj_L.set1 hc rfl hl))
theorem xr_astore (C : xj_C p s m args meth c G own cc nL) {i : Nat} {x : Nat} (d : decode cc pc = .ok (.astore i, 2)) (hc : xj_c lv i = true) (hn : i < nL) (K : xj_X p l e R s m args below meth c G nL cells slots Q h (lv.set i (some (.ref x))) (pc + 2) st) : xj_X p l e R s m args below meth c G nL cells slots Q h lv pc (.ref x :: st) := fun H locs ls hP hS hL => lv_astore C.1 C.2.1 d hL.has hn rfl (fun ls hl => K H locs ls hP hS (xj_L.set1 hc rfl hl))
theorem xr_lstore_n (C : xj_C p s m args meth c G own cc nL) {k : Fin 4} {x : Int64} (d : decode cc pc = .ok (.lstore_n k, 1)) (hc : xj_c lv (k : Nat) = true) (hn : (k : Nat) + 1 < nL) (K : xj_X p l e R s m args below meth c G nL cells slots Q h ((lv.set (k : Nat) (some (.long x))).set ((k : Nat) + 1) none) (pc + 1) st) : xj_X p l e R s m args below meth c G nL cells slots Q h lv pc (.long x :: st) := fun H locs ls hP hS hL => lv_lstore_n C.1 C.2.1 d rfl hL.has hn rfl (fun ls hl => K H locs ls hP hS (xj_L.set2 hc rfl hl))
theorem xr_lstore (C : xj_C p s m args meth c G own cc nL) {i : Nat} {x : Int64} (d : decode cc pc = .ok (.lstore i, 2)) (hc : xj_c lv i = true) (hn : i + 1 < nL) (K : xj_X p l e R s m args below meth c G nL cells slots Q h ((lv.set i (some (.long x))).set (i + 1) none) (pc + 2) st) : xj_X p l e R s m args below meth c G nL cells slots Q h lv pc (.long x :: st) := fun H locs ls hP hS hL => lv_lstore C.1 C.2.1 d hL.has hn rfl (fun ls hl => K H locs ls hP hS (xj_L.set2 hc rfl hl))
theorem xr_dstore (C : xj_C p s m args meth c G own cc nL) {i : Nat} {x : UInt64} (d : decode cc pc = .ok (.dstore i, 2)) (hc : xj_c lv i = true) (hn : i + 1 < nL) (K : xj_X p l e R s m args below meth c G nL cells slots Q h ((lv.set i (some (.double x))).set (i + 1) none) (pc + 2) st) : xj_X p l e R s m args below meth c G nL cells slots Q h lv pc (.double x :: st) := fun H locs ls hP hS hL => lv_dstore C.1 C.2.1 d hL.has hn rfl (fun ls hl => K H locs ls hP hS (xj_L.set2 hc rfl hl))
theorem xr_iinc (C : xj_C p s m args meth c G own cc nL) {i : Nat} {n : Int} {x v : Int32} (d : decode cc pc = .ok (.iinc i n, 3)) (hl : lv[i]? = some (some (.int x))) (hv : Int32.ofInt n = v) (hc : xj_c lv i = true) (hn : i < nL) (K : xj_X p l e R s m args below meth c G nL cells slots Q h (lv.set i (some (.int (x + v)))) (pc + 3) st) : xj_X p l e R s m args below meth c G nL cells slots Q h lv pc st := by
  intro H locs ls hP hS hL
  obtain ⟨k, hk⟩ := List.getElem?_of_mem (xj_p_in.mpr hl)
  subst hv
  exact lv_iinc C.1 C.2.1 d hL.has hk rfl hn rfl (fun ls hl => K H locs ls hP hS (xj_L.set1 hc rfl hl))
theorem xr_iadd (C : xj_C p s m args meth c G own cc nL) {x y : Int32} (d : decode cc pc = .ok (.iadd, 1))  (K : xj_X p l e R s m args below meth c G nL cells slots Q h lv (pc + 1) (.int (x + y) :: st)) : xj_X p l e R s m args below meth c G nL cells slots Q h lv pc (.int y :: .int x :: st) := fun H locs ls hP hS hL => lv_iadd C.1 C.2.1 d  (K H locs ls hP hS hL)
theorem xr_isub (C : xj_C p s m args meth c G own cc nL) {x y : Int32} (d : decode cc pc = .ok (.isub, 1))  (K : xj_X p l e R s m args below meth c G nL cells slots Q h lv (pc + 1) (.int (x - y) :: st)) : xj_X p l e R s m args below meth c G nL cells slots Q h lv pc (.int y :: .int x :: st) := fun H locs ls hP hS hL => lv_isub C.1 C.2.1 d  (K H locs ls hP hS hL)
theorem xr_imul (C : xj_C p s m args meth c G own cc nL) {x y : Int32} (d : decode cc pc = .ok (.imul, 1))  (K : xj_X p l e R s m args below meth c G nL cells slots Q h lv (pc + 1) (.int (x * y) :: st)) : xj_X p l e R s m args below meth c G nL cells slots Q h lv pc (.int y :: .int x :: st) := fun H locs ls hP hS hL => lv_imul C.1 C.2.1 d  (K H locs ls hP hS hL)
theorem xr_iand (C : xj_C p s m args meth c G own cc nL) {x y : Int32} (d : decode cc pc = .ok (.iand, 1))  (K : xj_X p l e R s m args below meth c G nL cells slots Q h lv (pc + 1) (.int (x &&& y) :: st)) : xj_X p l e R s m args below meth c G nL cells slots Q h lv pc (.int y :: .int x :: st) := fun H locs ls hP hS hL => lv_iand C.1 C.2.1 d  (K H locs ls hP hS hL)
theorem xr_ladd (C : xj_C p s m args meth c G own cc nL) {x y : Int64} (d : decode cc pc = .ok (.ladd, 1))  (K : xj_X p l e R s m args below meth c G nL cells slots Q h lv (pc + 1) (.long (x + y) :: st)) : xj_X p l e R s m args below meth c G nL cells slots Q h lv pc (.long y :: .long x :: st) := fun H locs ls hP hS hL => lv_ladd C.1 C.2.1 d  (K H locs ls hP hS hL)
theorem xr_lmul (C : xj_C p s m args meth c G own cc nL) {x y : Int64} (d : decode cc pc = .ok (.lmul, 1))  (K : xj_X p l e R s m args below meth c G nL cells slots Q h lv (pc + 1) (.long (x * y) :: st)) : xj_X p l e R s m args below meth c G nL cells slots Q h lv pc (.long y :: .long x :: st) := fun H locs ls hP hS hL => lv_lmul C.1 C.2.1 d  (K H locs ls hP hS hL)
theorem xr_i2l (C : xj_C p s m args meth c G own cc nL) {x : Int32} (d : decode cc pc = .ok (.i2l, 1))  (K : xj_X p l e R s m args below meth c G nL cells slots Q h lv (pc + 1) (.long x.toInt64 :: st)) : xj_X p l e R s m args below meth c G nL cells slots Q h lv pc (.int x :: st) := fun H locs ls hP hS hL => lv_i2l C.1 C.2.1 d rfl (K H locs ls hP hS hL)
theorem xr_dup (C : xj_C p s m args meth c G own cc nL) {v : Value} (d : decode cc pc = .ok (.dup, 1)) (hv : v.category = 1) (K : xj_X p l e R s m args below meth c G nL cells slots Q h lv (pc + 1) (v :: v :: st)) : xj_X p l e R s m args below meth c G nL cells slots Q h lv pc (v :: st) := fun H locs ls hP hS hL => lv_dup C.1 C.2.1 d hv (K H locs ls hP hS hL)
theorem xr_dup2 (C : xj_C p s m args meth c G own cc nL) {v u : Value} (d : decode cc pc = .ok (.dup2, 1)) (hv : v.category = 1) (hu : u.category = 1) (K : xj_X p l e R s m args below meth c G nL cells slots Q h lv (pc + 1) (v :: u :: v :: u :: st)) : xj_X p l e R s m args below meth c G nL cells slots Q h lv pc (v :: u :: st) := fun H locs ls hP hS hL => lv_dup2_11 C.1 C.2.1 d hv hu (K H locs ls hP hS hL)
theorem xr_ldc2 (C : xj_C p s m args meth c G own cc nL) {index : Nat} {v : Int64} (d : decode cc pc = .ok (.ldc2_w index, 3)) (hw : Cond.constantLong own index v ∈ lw_g) (K : xj_X p l e R s m args below meth c G nL cells slots Q h lv (pc + 3) (.long v :: st)) : xj_X p l e R s m args below meth c G nL cells slots Q h lv pc st := fun H locs ls hP hS hL => lv_ldc2 C.1 C.2.1 C.2.2.2.1 (C.2.2.2.2.1 _ hw) d (K H locs ls hP hS hL)
theorem xo_t {α : Type} {P : Prop} {iP : Decidable P} {A B r : Option α} (hR : (if P then A else B) = r) (hp : P) : A = r := by rw [if_pos hp] at hR; exact hR
theorem xo_f {α : Type} {P : Prop} {iP : Decidable P} {A B r : Option α} (hR : (if P then A else B) = r) (hp : ¬ P) : B = r := by rw [if_neg hp] at hR; exact hR
theorem xo_b {α β : Type} {o : Option α} {F : α → Option β} {r : β} (hR : o.bind F = some r) : ∃ q, o = some q ∧ F q = some r := by
  cases o with
  | none => cases hR
  | some q => exact ⟨q, rfl, hR⟩
/-- an index inside: the guard of the pure functions -/
def xo_ix (i : Int32) (n : Nat) : Bool := decide (0 ≤ i.toInt) && decide (i.toInt < n)
theorem xo_ix_in {i : Int32} {n : Nat} (hi : xo_ix i n = true) : vp_in i n := by
  unfold xo_ix at hi
  rw [Bool.and_eq_true, decide_eq_true_eq, decide_eq_true_eq] at hi
  exact vp_in_iff.mpr hi
theorem xo_ix_lt {i : Int32} {n : Nat} (hi : xo_ix i n = true) : i.toNatClampNeg < n := Nat.not_le.mp fun q => xo_ix_in hi (Or.inr q)
theorem xr_if_eq (C : xj_C p s m args meth c G own cc nL) {x : Int32} {off : Int} {tgt : Nat} (d : decode cc pc = .ok (.ifCond .eq off, 3)) (ht : (pc : Int) + off = (tgt : Int)) {α : Type} {A B r : Option α} (hR : (if x = 0 then A else B) = r) (kt : A = r → xj_X p l e R s m args below meth c G nL cells slots Q h lv tgt st) (kf : B = r → xj_X p l e R s m args below meth c G nL cells slots Q h lv (pc + 3) st) : xj_X p l e R s m args below meth c G nL cells slots Q h lv pc (.int x :: st) := fun H locs ls hP hS hL => lv_if_eq C.1 C.2.1 d ht (fun cc9 => (kt (xo_t hR cc9)) H locs ls hP hS hL) (fun cc9 => (kf (xo_f hR cc9)) H locs ls hP hS hL)
theorem xr_icmp_eq (C : xj_C p s m args meth c G own cc nL) {x y : Int32} {off : Int} {tgt : Nat} (d : decode cc pc = .ok (.if_icmp .eq off, 3)) (ht : (pc : Int) + off = (tgt : Int)) {α : Type} {A B r : Option α} (hR : (if x = y then A else B) = r) (kt : A = r → xj_X p l e R s m args below meth c G nL cells slots Q h lv tgt st) (kf : B = r → xj_X p l e R s m args below meth c G nL cells slots Q h lv (pc + 3) st) : xj_X p l e R s m args below meth c G nL cells slots Q h lv pc (.int y :: .int x :: st) := fun H locs ls hP hS hL => lv_icmp_eq C.1 C.2.1 d ht (fun cc9 => (kt (xo_t hR cc9)) H locs ls hP hS hL) (fun cc9 => (kf (xo_f hR cc9)) H locs ls hP hS hL)
theorem xr_if_ne (C : xj_C p s m args meth c G own cc nL) {x : Int32} {off : Int} {tgt : Nat} (d : decode cc pc = .ok (.ifCond .ne off, 3)) (ht : (pc : Int) + off = (tgt : Int)) {α : Type} {A B r : Option α} (hR : (if x = 0 then B else A) = r) (kt : A = r → xj_X p l e R s m args below meth c G nL cells slots Q h lv tgt st) (kf : B = r → xj_X p l e R s m args below meth c G nL cells slots Q h lv (pc + 3) st) : xj_X p l e R s m args below meth c G nL cells slots Q h lv pc (.int x :: st) := fun H locs ls hP hS hL => lv_if_ne C.1 C.2.1 d ht (fun cc9 => (kt (xo_f hR cc9)) H locs ls hP hS hL) (fun cc9 => (kf (xo_t hR cc9)) H locs ls hP hS hL)
theorem xr_icmp_ne (C : xj_C p s m args meth c G own cc nL) {x y : Int32} {off : Int} {tgt : Nat} (d : decode cc pc = .ok (.if_icmp .ne off, 3)) (ht : (pc : Int) + off = (tgt : Int)) {α : Type} {A B r : Option α} (hR : (if x = y then B else A) = r) (kt : A = r → xj_X p l e R s m args below meth c G nL cells slots Q h lv tgt st) (kf : B = r → xj_X p l e R s m args below meth c G nL cells slots Q h lv (pc + 3) st) : xj_X p l e R s m args below meth c G nL cells slots Q h lv pc (.int y :: .int x :: st) := fun H locs ls hP hS hL => lv_icmp_ne C.1 C.2.1 d ht (fun cc9 => (kt (xo_f hR cc9)) H locs ls hP hS hL) (fun cc9 => (kf (xo_t hR cc9)) H locs ls hP hS hL)
theorem xr_if_lt (C : xj_C p s m args meth c G own cc nL) {x : Int32} {off : Int} {tgt : Nat} (d : decode cc pc = .ok (.ifCond .lt off, 3)) (ht : (pc : Int) + off = (tgt : Int)) {α : Type} {A B r : Option α} (hR : (if x < 0 then A else B) = r) (kt : A = r → xj_X p l e R s m args below meth c G nL cells slots Q h lv tgt st) (kf : B = r → xj_X p l e R s m args below meth c G nL cells slots Q h lv (pc + 3) st) : xj_X p l e R s m args below meth c G nL cells slots Q h lv pc (.int x :: st) := fun H locs ls hP hS hL => lv_if_lt C.1 C.2.1 d ht (fun cc9 => (kt (xo_t hR cc9)) H locs ls hP hS hL) (fun cc9 => (kf (xo_f hR cc9)) H locs ls hP hS hL)
theorem xr_icmp_lt (C : xj_C p s m args meth c G own cc nL) {x y : Int32} {off : Int} {tgt : Nat} (d : decode cc pc = .ok (.if_icmp .lt off, 3)) (ht : (pc : Int) + off = (tgt : Int)) {α : Type} {A B r : Option α} (hR : (if x < y then A else B) = r) (kt : A = r → xj_X p l e R s m args below meth c G nL cells slots Q h lv tgt st) (kf : B = r → xj_X p l e R s m args below meth c G nL cells slots Q h lv (pc + 3) st) : xj_X p l e R s m args below meth c G nL cells slots Q h lv pc (.int y :: .int x :: st) := fun H locs ls hP hS hL => lv_icmp_lt C.1 C.2.1 d ht (fun cc9 => (kt (xo_t hR cc9)) H locs ls hP hS hL) (fun cc9 => (kf (xo_f hR cc9)) H locs ls hP hS hL)
theorem xr_if_ge (C : xj_C p s m args meth c G own cc nL) {x : Int32} {off : Int} {tgt : Nat} (d : decode cc pc = .ok (.ifCond .ge off, 3)) (ht : (pc : Int) + off = (tgt : Int)) {α : Type} {A B r : Option α} (hR : (if 0 ≤ x then A else B) = r) (kt : A = r → xj_X p l e R s m args below meth c G nL cells slots Q h lv tgt st) (kf : B = r → xj_X p l e R s m args below meth c G nL cells slots Q h lv (pc + 3) st) : xj_X p l e R s m args below meth c G nL cells slots Q h lv pc (.int x :: st) := fun H locs ls hP hS hL => lv_if_ge C.1 C.2.1 d ht (fun cc9 => (kt (xo_t hR cc9)) H locs ls hP hS hL) (fun cc9 => (kf (xo_f hR cc9)) H locs ls hP hS hL)
theorem xr_icmp_ge (C : xj_C p s m args meth c G own cc nL) {x y : Int32} {off : Int} {tgt : Nat} (d : decode cc pc = .ok (.if_icmp .ge off, 3)) (ht : (pc : Int) + off = (tgt : Int)) {α : Type} {A B r : Option α} (hR : (if y ≤ x then A else B) = r) (kt : A = r → xj_X p l e R s m args below meth c G nL cells slots Q h lv tgt st) (kf : B = r → xj_X p l e R s m args below meth c G nL cells slots Q h lv (pc + 3) st) : xj_X p l e R s m args below meth c G nL cells slots Q h lv pc (.int y :: .int x :: st) := fun H locs ls hP hS hL => lv_icmp_ge C.1 C.2.1 d ht (fun cc9 => (kt (xo_t hR cc9)) H locs ls hP hS hL) (fun cc9 => (kf (xo_f hR cc9)) H locs ls hP hS hL)
theorem xr_if_gt (C : xj_C p s m args meth c G own cc nL) {x : Int32} {off : Int} {tgt : Nat} (d : decode cc pc = .ok (.ifCond .gt off, 3)) (ht : (pc : Int) + off = (tgt : Int)) {α : Type} {A B r : Option α} (hR : (if 0 < x then A else B) = r) (kt : A = r → xj_X p l e R s m args below meth c G nL cells slots Q h lv tgt st) (kf : B = r → xj_X p l e R s m args below meth c G nL cells slots Q h lv (pc + 3) st) : xj_X p l e R s m args below meth c G nL cells slots Q h lv pc (.int x :: st) := fun H locs ls hP hS hL => lv_if_gt C.1 C.2.1 d ht (fun cc9 => (kt (xo_t hR cc9)) H locs ls hP hS hL) (fun cc9 => (kf (xo_f hR cc9)) H locs ls hP hS hL)
theorem xr_icmp_gt (C : xj_C p s m args meth c G own cc nL) {x y : Int32} {off : Int} {tgt : Nat} (d : decode cc pc = .ok (.if_icmp .gt off, 3)) (ht : (pc : Int) + off = (tgt : Int)) {α : Type} {A B r : Option α} (hR : (if y < x then A else B) = r) (kt : A = r → xj_X p l e R s m args below meth c G nL cells slots Q h lv tgt st) (kf : B = r → xj_X p l e R s m args below meth c G nL cells slots Q h lv (pc + 3) st) : xj_X p l e R s m args below meth c G nL cells slots Q h lv pc (.int y :: .int x :: st) := fun H locs ls hP hS hL => lv_icmp_gt C.1 C.2.1 d ht (fun cc9 => (kt (xo_t hR cc9)) H locs ls hP hS hL) (fun cc9 => (kf (xo_f hR cc9)) H locs ls hP hS hL)
theorem xr_if_le (C : xj_C p s m args meth c G own cc nL) {x : Int32} {off : Int} {tgt : Nat} (d : decode cc pc = .ok (.ifCond .le off, 3)) (ht : (pc : Int) + off = (tgt : Int)) {α : Type} {A B r : Option α} (hR : (if x ≤ 0 then A else B) = r) (kt : A = r → xj_X p l e R s m args below meth c G nL cells slots Q h lv tgt st) (kf : B = r → xj_X p l e R s m args below meth c G nL cells slots Q h lv (pc + 3) st) : xj_X p l e R s m args below meth c G nL cells slots Q h lv pc (.int x :: st) := fun H locs ls hP hS hL => lv_if_le C.1 C.2.1 d ht (fun cc9 => (kt (xo_t hR cc9)) H locs ls hP hS hL) (fun cc9 => (kf (xo_f hR cc9)) H locs ls hP hS hL)
theorem xr_icmp_le (C : xj_C p s m args meth c G own cc nL) {x y : Int32} {off : Int} {tgt : Nat} (d : decode cc pc = .ok (.if_icmp .le off, 3)) (ht : (pc : Int) + off = (tgt : Int)) {α : Type} {A B r : Option α} (hR : (if x ≤ y then A else B) = r) (kt : A = r → xj_X p l e R s m args below meth c G nL cells slots Q h lv tgt st) (kf : B = r → xj_X p l e R s m args below meth c G nL cells slots Q h lv (pc + 3) st) : xj_X p l e R s m args below meth c G nL cells slots Q h lv pc (.int y :: .int x :: st) := fun H locs ls hP hS hL => lv_icmp_le C.1 C.2.1 d ht (fun cc9 => (kt (xo_t hR cc9)) H locs ls hP hS hL) (fun cc9 => (kf (xo_f hR cc9)) H locs ls hP hS hL)
theorem xr_goto (C : xj_C p s m args meth c G own cc nL) {off : Int} {tgt : Nat} (d : decode cc pc = .ok (.goto off, 3)) (ht : (pc : Int) + off = (tgt : Int)) (K : xj_X p l e R s m args below meth c G nL cells slots Q h lv tgt st) : xj_X p l e R s m args below meth c G nL cells slots Q h lv pc st := fun H locs ls hP hS hL => lv_goto C.1 C.2.1 d ht (K H locs ls hP hS hL)
theorem xr_ifnonnull (C : xj_C p s m args meth c G own cc nL) {x : Nat} {off : Int} {tgt : Nat} (d : decode cc pc = .ok (.ifnonnull off, 3)) (ht : (pc : Int) + off = (tgt : Int)) (K : xj_X p l e R s m args below meth c G nL cells slots Q h lv tgt st) : xj_X p l e R s m args below meth c G nL cells slots Q h lv pc (.ref x :: st) := fun H locs ls hP hS hL => lv_ifnonnull C.1 C.2.1 d ht (K H locs ls hP hS hL)
theorem xr_tabOut (C : xj_C p s m args meth c G own cc nL) {dflt lo hi : Int} {offs : Array Int} {len : Nat} {x : Int32} {tgt : Nat} (d : decode cc pc = .ok (.tableswitch dflt lo hi offs, len)) (hx : x.toInt < lo ∨ hi < x.toInt) (ht : (pc : Int) + dflt = (tgt : Int)) (K : xj_X p l e R s m args below meth c G nL cells slots Q h lv tgt st) : xj_X p l e R s m args below meth c G nL cells slots Q h lv pc (.int x :: st) := fun H locs ls hP hS hL => lv_tableOut C.1 C.2.1 d hx ht (K H locs ls hP hS hL)
theorem xr_tabIn (C : xj_C p s m args meth c G own cc nL) {dflt lo hi : Int} {offs : Array Int} {len : Nat} {x : Int32} {off : Int} {tgt : Nat} (d : decode cc pc = .ok (.tableswitch dflt lo hi offs, len)) (h1 : ¬ x.toInt < lo) (h2 : ¬ hi < x.toInt) (ho : offs[(x.toInt - lo).toNat]? = some off) (ht : (pc : Int) + off = (tgt : Int)) (K : xj_X p l e R s m args below meth c G nL cells slots Q h lv tgt st) : xj_X p l e R s m args below meth c G nL cells slots Q h lv pc (.int x :: st) := fun H locs ls hP hS hL => lv_tableIn C.1 C.2.1 d h1 h2 ho ht (K H locs ls hP hS hL)
/-- a field's word: entry idx of own's pool names the field j of the class of kind κ -/
def xw_fl (own : String) (idx κ j : Nat) : Prop := ∃ r : vw_C, vwCl[κ]? = some r ∧ j < r.2.2 ∧ (r.2.1 j).1 = r.1 ∧ Cond.fieldLink own idx r.1 (r.2.1 j).2.1 (r.2.1 j).2.2.1 ∈ lw_g
/-- an int field that may be set: what the list of the fields is behind it -/
def xw_pf (κ j : Nat) : Prop := (∃ r : vw_C, vwCl[κ]? = some r ∧ (r.2.1 j).2.2.2 = false ∧ parseFieldDescriptor (r.2.1 j).2.2.1 = some .int) ∧ κ < 7 ∧ ∀ (ad : Nat → Nat) (k : Nat) (g : Nat → Int32) (v : Int32), xw_fs ad κ k (upd g j v) = (xw_fs ad κ k g).set j (.int v) ∧ j < (xw_fs ad κ k g).length
theorem xw_ct_lo {T : Nat → ClassId} {ad : Nat → Nat} {κ k : Nat} {g : Nat → Int32} (hκ : κ < 7) : xw_ct T ad κ k g = .inr (κ, xw_fs ad κ k g) := by
  rcases (show κ = 0 ∨ κ = 1 ∨ κ = 2 ∨ κ = 3 ∨ κ = 4 ∨ κ = 5 ∨ κ = 6 by omega) with rfl | rfl | rfl | rfl | rfl | rfl | rfl <;> rfl
/-- what the tables say of every class -/
theorem xw_cl : ∀ (κ : Nat) (r : vw_C), vwCl[κ]? = some r → (∀ w ∈ u_ws r.1 r.2.1 r.2.2, w ∈ lw_g) ∧ (∃ ty0 : Nat → FieldType, ∀ k, k < r.2.2 → parseFieldDescriptor (r.2.1 k).2.2.1 = some (ty0 k)) ∧ (∀ a, a < r.2.2 → ∀ b, b < r.2.2 → a ≠ b → (r.2.1 a).2.1 ≠ (r.2.1 b).2.1) ∧ κ < 7
  | 0, _, h => by cases h; exact ⟨by decide +kernel, ⟨_, tyX0_ok⟩, nmX0, by decide⟩
  | 1, _, h => by cases h; exact ⟨by decide +kernel, ⟨_, tyX1_ok⟩, nmX1, by decide⟩
  | 2, _, h => by cases h; exact ⟨by decide +kernel, ⟨_, tyX2_ok⟩, nmX2, by decide⟩
  | 3, _, h => by cases h; exact ⟨by decide +kernel, ⟨_, tyX3_ok⟩, nmX3, by decide⟩
  | 4, _, h => by cases h; exact ⟨by decide +kernel, ⟨_, tyX4_ok⟩, nmX4, by decide⟩
  | 5, _, h => by cases h; exact ⟨by decide +kernel, ⟨_, tyX5_ok⟩, nmX5, by decide⟩
  | 6, _, h => by cases h; exact ⟨by decide +kernel, ⟨_, tyX6_ok⟩, nmX6, by decide⟩
  | n + 7, _, h => by simp [vwCl] at h
theorem xr_get (C : xj_C p s m args meth c G own cc nL) {k κ j idx : Nat} {v : Value} (hk : xw_kd k = κ) (F : xw_fl own idx κ j) (hv : (xw_fs (xg_ad G) κ k (h k))[j]? = some v) (d : decode cc pc = .ok (.getfield idx, 3)) (K : xj_X p l e R s m args below meth c G nL cells slots Q h lv (pc + 3) (v :: st)) : xj_X p l e R s m args below meth c G nL cells slots Q h lv pc (.ref (xg_ad G k) :: st) := by
  intro H locs ls hP hS hL
  obtain ⟨r, h1, h2, h3, h4⟩ := F
  obtain ⟨g1, g2, g3, g4⟩ := xw_cl κ r h1
  have hl : k < xg_N G := Nat.lt_of_lt_of_le (xw_lt hk (by omega)) (Nat.le_of_succ_le C.2.2.2.2.2.2.1.1)
  have he : (xw_ws G h)[k]? = some (xg_ad G k, .inr (κ, xw_fs (xg_ad G) κ k (h k))) := by rw [xw_get hl, xw_ce, hk, xw_ct_lo g4]
  exact va_get (D := xg_D G) C.1 C.2.1 C.2.2.2.2.1 g1 C.2.2.2.1 C.2.2.2.2.2.1 hP k he h1 j h2 (C.2.2.2.2.1 _ h4) (fun x hx => by rw [h3] at hx; exact hx) hv d (K H locs ls hP hS hL)
theorem xr_put (C : xj_C p s m args meth c G own cc nL) {k κ j idx : Nat} {v : Int32} (hk : xw_kd k = κ) (F : xw_fl own idx κ j) (hp : xw_pf κ j) (d : decode cc pc = .ok (.putfield idx, 3)) (K : xj_X p l e R s m args below meth c G nL cells slots Q (xw_st h k j v) lv (pc + 3) st) : xj_X p l e R s m args below meth c G nL cells slots Q h lv pc (.int v :: .ref (xg_ad G k) :: st) := by
  intro H locs ls hP hS hL
  obtain ⟨r, h1, h2, h3, h4⟩ := F
  obtain ⟨g1, ⟨ty0, g2⟩, g3, g4⟩ := xw_cl κ r h1
  obtain ⟨⟨r2, p1, p2, p3⟩, -, p4⟩ := hp
  cases Option.some.inj (h1.symm.trans p1)
  have hl : k < xg_N G := Nat.lt_of_lt_of_le (xw_lt hk (by omega)) (Nat.le_of_succ_le C.2.2.2.2.2.2.1.1)
  have he : (xw_ws G h)[k]? = some (xg_ad G k, .inr (κ, xw_fs (xg_ad G) κ k (h k))) := by rw [xw_get hl, xw_ce, hk, xw_ct_lo g4]
  refine va_put (D := xg_D G) (v := .int v) C.1 C.2.1 C.2.2.2.2.1 g1 ty0 g2 g3 C.2.2.2.1 C.2.2.2.2.2.1 hP (xw_D C.2.2.2.2.2.2.1 h) hS k he h1 j h2 (C.2.2.2.2.1 _ h4) (fun x hx => by rw [h3] at hx; exact hx) p2 p3 rfl rfl (p4 (xg_ad G) k (h k) v).2 d (fun H1 locs1 hP1 hD1 hS1 => ?_)
  rw [xw_set_st hl (j := j) (v := v) (by rw [hk, xw_ct_lo g4, (p4 (xg_ad G) k (h k) v).1])] at hP1
  exact K H1 locs1 ls hP1 hS1 hL
/-- the length of an array of ints -/
def xw_al (κ : Nat) : Option Nat := match κ with
  | 7 => some 8
  | 11 => some 96
  | 12 => some 204
  | 13 => some 8
  | 14 => some 7
  | _ => none
theorem xw_al_ct {κ n : Nat} (ha : xw_al κ = some n) {T : Nat → ClassId} {ad : Nat → Nat} {k : Nat} : ∀ g : Nat → Int32, xw_ct T ad κ k g = .inl (T 0, n, .inl g) := by
  intro g
  unfold xw_al at ha
  split at ha <;> cases ha <;> rfl
/-- the length of an array of things, their class, the code at a place of it -/
def xw_rl (κ : Nat) : Option (Nat × Nat × String) := match κ with
  | 8 => some (4, 1, RX0)
  | 9 => some (8, 2, RX2)
  | 10 => some (12, 3, RX4)
  | _ => none
def xw_el (κ k i : Nat) : Nat := match κ with
  | 8 => k + 4 + 7 * i
  | 9 => k + 38 + 15 * i
  | _ => k + 1 + i
theorem xw_rl_ct {κ n t : Nat} {S : String} (ha : xw_rl κ = some (n, t, S)) {G : xw_G} {k : Nat} (g : Nat → Int32) : xw_ct (xg_T G) (xg_ad G) κ k g = .inl (xg_T G t, n, .inr (.inr (.inr (.inr (fun i => some (xg_ad G (xw_el κ k i))))))) ∧ (xw_tys G)[t]? = some (xg_T G t, .object S) ∧ κ < 13 := by
  unfold xw_rl at ha
  split at ha <;> cases ha <;> exact ⟨rfl, rfl, by decide⟩
theorem xw_kel {κ k i n t : Nat} {S : String} (ha : xw_rl κ = some (n, t, S)) (hk : xw_kd k = κ) (hi : i < n) : xw_kd (xw_el κ k i) = (match κ with | 8 => 0 | 9 => 2 | _ => 4) := by
  have h8 : ∀ k, k < 358 → xw_kd k = 8 → ∀ i, i < 4 → xw_kd (xw_el 8 k i) = 0 := by decide +kernel
  have h9 : ∀ k, k < 358 → xw_kd k = 9 → ∀ i, i < 8 → xw_kd (xw_el 9 k i) = 2 := by decide +kernel
  have h10 : ∀ k, k < 358 → xw_kd k = 10 → ∀ i, i < 12 → xw_kd (xw_el 10 k i) = 4 := by decide +kernel
  unfold xw_rl at ha
  split at ha
  · cases ha; exact h8 k (xw_lt hk (by decide)) hk i hi
  · cases ha; exact h9 k (xw_lt hk (by decide)) hk i hi
  · cases ha; exact h10 k (xw_lt hk (by decide)) hk i hi
  · cases ha
theorem xr_iald (C : xj_C p s m args meth c G own cc nL) {k κ n : Nat} {i : Int32} (hk : xw_kd k = κ) (hl : k < xg_N G) (ha : xw_al κ = some n) (d : decode cc pc = .ok (.iaload, 1)) {α : Type} {A : Option α} {q : α} (hR : (if xo_ix i n = true then A else none) = some q) (K : A = some q → xj_X p l e R s m args below meth c G nL cells slots Q h lv (pc + 1) (.int (h k i.toNatClampNeg) :: st)) : xj_X p l e R s m args below meth c G nL cells slots Q h lv pc (.int i :: .ref (xg_ad G k) :: st) := by
  intro H locs ls hP hS hL
  have he : (xw_ws G h)[k]? = some (xg_ad G k, .inl (xg_T G 0, n, .inl (h k))) := by rw [xw_get hl, xw_ce, hk, xw_al_ct ha]
  have hi : xo_ix i n = true := Classical.byContradiction fun z => by rw [if_neg z] at hR; cases hR
  exact va_iald C.1 C.2.1 C.2.2.2.2.2.1 hP k 0 he rfl (xo_ix_in hi) d (K (xo_t hR hi) H locs ls hP hS hL)
theorem xr_ialdC (C : xj_C p s m args meth c G own cc nL) {k κ n : Nat} {i : Int32} (hk : xw_kd k = κ) (hl : k < xg_N G) (ha : xw_al κ = some n) (hi : xo_ix i n = true) (d : decode cc pc = .ok (.iaload, 1)) (K : xj_X p l e R s m args below meth c G nL cells slots Q h lv (pc + 1) (.int (h k i.toNatClampNeg) :: st)) : xj_X p l e R s m args below meth c G nL cells slots Q h lv pc (.int i :: .ref (xg_ad G k) :: st) := by
  intro H locs ls hP hS hL
  have he : (xw_ws G h)[k]? = some (xg_ad G k, .inl (xg_T G 0, n, .inl (h k))) := by rw [xw_get hl, xw_ce, hk, xw_al_ct ha]
  exact va_iald C.1 C.2.1 C.2.2.2.2.2.1 hP k 0 he rfl (xo_ix_in hi) d (K H locs ls hP hS hL)
theorem xr_iast (C : xj_C p s m args meth c G own cc nL) {k κ n : Nat} {i x : Int32} (hk : xw_kd k = κ) (hl : k < xg_N G) (ha : xw_al κ = some n) (d : decode cc pc = .ok (.iastore, 1)) {α : Type} {A : Option α} {q : α} (hR : (if xo_ix i n = true then A else none) = some q) (K : A = some q → xj_X p l e R s m args below meth c G nL cells slots Q (xw_st h k i.toNatClampNeg x) lv (pc + 1) st) : xj_X p l e R s m args below meth c G nL cells slots Q h lv pc (.int x :: .int i :: .ref (xg_ad G k) :: st) := by
  intro H locs ls hP hS hL
  have he : (xw_ws G h)[k]? = some (xg_ad G k, .inl (xg_T G 0, n, .inl (h k))) := by rw [xw_get hl, xw_ce, hk, xw_al_ct ha]
  have hi : xo_ix i n = true := Classical.byContradiction fun z => by rw [if_neg z] at hR; cases hR
  refine va_iast C.1 C.2.1 C.2.2.2.2.2.1 hP (xw_D C.2.2.2.2.2.2.1 h) hS k 0 he rfl (xo_ix_in hi) d (fun H1 locs1 hP1 hD1 hS1 => ?_)
  rw [xw_set_st hl (j := i.toNatClampNeg) (v := x) (by rw [hk, xw_al_ct ha])] at hP1
  exact K (xo_t hR hi) H1 locs1 ls hP1 hS1 hL
theorem xr_iastC (C : xj_C p s m args meth c G own cc nL) {k κ n : Nat} {i x : Int32} (hk : xw_kd k = κ) (hl : k < xg_N G) (ha : xw_al κ = some n) (hi : xo_ix i n = true) (d : decode cc pc = .ok (.iastore, 1)) (K : xj_X p l e R s m args below meth c G nL cells slots Q (xw_st h k i.toNatClampNeg x) lv (pc + 1) st) : xj_X p l e R s m args below meth c G nL cells slots Q h lv pc (.int x :: .int i :: .ref (xg_ad G k) :: st) := by
  intro H locs ls hP hS hL
  have he : (xw_ws G h)[k]? = some (xg_ad G k, .inl (xg_T G 0, n, .inl (h k))) := by rw [xw_get hl, xw_ce, hk, xw_al_ct ha]
  refine va_iast C.1 C.2.1 C.2.2.2.2.2.1 hP (xw_D C.2.2.2.2.2.2.1 h) hS k 0 he rfl (xo_ix_in hi) d (fun H1 locs1 hP1 hD1 hS1 => ?_)
  rw [xw_set_st hl (j := i.toNatClampNeg) (v := x) (by rw [hk, xw_al_ct ha])] at hP1
  exact K H1 locs1 ls hP1 hS1 hL
theorem xr_alen (C : xj_C p s m args meth c G own cc nL) {k κ n : Nat} {v : Int32} (hk : xw_kd k = κ) (hl : k < xg_N G) (ha : xw_al κ = some n) (hv : Int32.ofNat n = v) (d : decode cc pc = .ok (.arraylength, 1)) (K : xj_X p l e R s m args below meth c G nL cells slots Q h lv (pc + 1) (.int v :: st)) : xj_X p l e R s m args below meth c G nL cells slots Q h lv pc (.ref (xg_ad G k) :: st) := by
  intro H locs ls hP hS hL
  have he : (xw_ws G h)[k]? = some (xg_ad G k, .inl (xg_T G 0, n, .inl (h k))) := by rw [xw_get hl, xw_ce, hk, xw_al_ct ha]
  exact va_alen C.1 C.2.1 C.2.2.2.2.2.1 hP k 0 he rfl hv d (K H locs ls hP hS hL)
theorem xr_alenR (C : xj_C p s m args meth c G own cc nL) {k κ n t : Nat} {S : String} {v : Int32} (hk : xw_kd k = κ) (ha : xw_rl κ = some (n, t, S)) (hv : Int32.ofNat n = v) (d : decode cc pc = .ok (.arraylength, 1)) (K : xj_X p l e R s m args below meth c G nL cells slots Q h lv (pc + 1) (.int v :: st)) : xj_X p l e R s m args below meth c G nL cells slots Q h lv pc (.ref (xg_ad G k) :: st) := by
  intro H locs ls hP hS hL
  obtain ⟨r1, r2, r3⟩ := xw_rl_ct (G := G) (k := k) ha (h k)
  have hl : k < xg_N G := Nat.lt_of_lt_of_le (xw_lt hk r3) (Nat.le_of_succ_le C.2.2.2.2.2.2.1.1)
  have he : (xw_ws G h)[k]? = some (xg_ad G k, .inl (xg_T G t, n, .inr (.inr (.inr (.inr (fun i => some (xg_ad G (xw_el κ k i)))))))) := by rw [xw_get hl, xw_ce, hk, r1]
  exact va_alen C.1 C.2.1 C.2.2.2.2.2.1 hP k t he r2 hv d (K H locs ls hP hS hL)
theorem xr_aald (C : xj_C p s m args meth c G own cc nL) {k κ n t : Nat} {S : String} {i : Int32} (hk : xw_kd k = κ) (ha : xw_rl κ = some (n, t, S)) (d : decode cc pc = .ok (.aaload, 1)) {α : Type} {A : Option α} {q : α} (hR : (if xo_ix i n = true then A else none) = some q) (K : xo_ix i n = true → A = some q → xj_X p l e R s m args below meth c G nL cells slots Q h lv (pc + 1) (.ref (xg_ad G (xw_el κ k i.toNatClampNeg)) :: st)) : xj_X p l e R s m args below meth c G nL cells slots Q h lv pc (.int i :: .ref (xg_ad G k) :: st) := by
  intro H locs ls hP hS hL
  obtain ⟨r1, r2, r3⟩ := xw_rl_ct (G := G) (k := k) ha (h k)
  have hl : k < xg_N G := Nat.lt_of_lt_of_le (xw_lt hk r3) (Nat.le_of_succ_le C.2.2.2.2.2.2.1.1)
  have he : (xw_ws G h)[k]? = some (xg_ad G k, .inl (xg_T G t, n, .inr (.inr (.inr (.inr (fun i => some (xg_ad G (xw_el κ k i)))))))) := by rw [xw_get hl, xw_ce, hk, r1]
  have hi : xo_ix i n = true := Classical.byContradiction fun z => by rw [if_neg z] at hR; cases hR
  exact va_aldq C.1 C.2.1 C.2.2.2.2.2.1 hP k t he r2 (xo_ix_in hi) d (K hi (xo_t hR hi) H locs ls hP hS hL)
/-! a method's contract: from the memory h it comes back with rv and the memory h' -/
def xw_Q (G : xw_G) (rv : Option Value) (h' : xw_M) : Array Value → State → Outcome → State → Prop := fun _ st o t => o = .returned rv ∧ xw_P G h' t.heap ∧ va_F (xg_A G) st t
def xc_M (l : Launch) (G : xw_G) (y : MethodName) (cc : ByteArray) (n : Nat) (ret : Option FieldType) (fr lo : Nat) (av : List Value) (h h' : xw_M) (rv : Option Value) : Prop :=
  Met l y (.code y cc n ret :: lw_g) { frames := fr, cells := 0, slots := 0, locals := lo } (va_Pc av (xw_S G h)) (xw_Q G rv h') 0 0 (xg_A G)
theorem xc_entry : ∀ (av : List Value) (i j : Nat) (v : Value), av.all (fun v => v.category == 1) = true → av[j]? = some v → (i + j, v) ∈ lv_args i av
  | [], i, j, v, _, h => by simp at h
  | a :: av, i, 0, v, hc, h => by
    simp only [List.getElem?_cons_zero, Option.some.injEq] at h
    subst h
    exact List.mem_cons_self
  | a :: av, i, j + 1, v, hc, h => by
    rw [List.all_cons, Bool.and_eq_true, beq_iff_eq] at hc
    rw [List.getElem?_cons_succ] at h
    have h1 := xc_entry av (i + 1) j v hc.2 h
    unfold lv_args
    rw [if_neg (by rw [hc.1]; decide)]
    exact List.mem_cons_of_mem _ (by rw [show i + (j + 1) = i + 1 + j by omega]; exact h1)
def xc_lv (av : List Value) (n : Nat) : List (Option Value) := av.map some ++ List.replicate (n - av.length) none
theorem xc_lv_at {av : List Value} {n j : Nat} {v : Value} (h : (xc_lv av n)[j]? = some (some v)) : av[j]? = some v := by
  unfold xc_lv at h
  by_cases hj : j < av.length
  · rw [List.getElem?_append_left (by rw [List.length_map]; exact hj), List.getElem?_map] at h
    cases ha : av[j]? with
    | none => rw [ha] at h; cases h
    | some x => rw [ha] at h; cases h; rfl
  · rw [List.getElem?_append_right (by rw [List.length_map]; omega)] at h
    have h2 := List.mem_of_getElem? h
    rw [List.mem_replicate] at h2
    exact absurd h2.2 (by simp)
theorem xc_of {ret : Option FieldType} {y : MethodName} {n fr lo : Nat} {av : List Value} {h' : xw_M} {rv : Option Value} (hy : plainName y.cls = true) (hcat : av.all (fun v => v.category == 1) = true) (hlen : (lg_sl av).length ≤ n)
    (body : ∀ (p : Program) (e : Env) (s : State) (m : MethodId) (args : Array Value) (below : List Frame) (meth : Method) (c : Code), xj_C p s m args meth c G y.cls cc n → meth.sig.returnType = ret →
      xj_X p l e { frames := fr, cells := 0, slots := 0, locals := lo } s m args below meth c G n 0 0 (MQ below (xw_Q G rv h') args s 0 0 (xg_A G)) h (xc_lv av n) 0 []) : xc_M l G y cc n ret fr lo av h h' rv := by
  refine Met.ofW (cc := cc) (maxL := n) (ret := ret) hy rfl ?_
  intro p e s m args below meth c s₁ B hml hv
  obtain ⟨rfl, hP, hK, hG, hX⟩ := hv
  have hts : ∀ w ∈ lw_g, w.before av.toArray s = true := fun w hw => atoms_spec (ws := .code y cc n ret :: lw_g) B.pre w (List.mem_cons_of_mem _ hw)
  have hl := lv_entry av (n := n) hlen
  rw [lg_entry_eq]
  exact body p e s m av.toArray below meth c ⟨B.exec, B.bytes, hml, findClass_of_methodNamed B.named, hts, hK, hG, hX, B.notSynchronized⟩ B.returns s.heap [] _ hP va_S.rf ⟨hl.1, hl.2.1, fun i v hi => hl.2.2 (i, v) (by have h1 := xc_entry av 0 i v hcat (xc_lv_at hi); rwa [Nat.zero_add] at h1)⟩
/-! the ends -/
theorem xr_iret (C : xj_C p s m args meth c G own cc nL) {v : Int32} (hr : meth.sig.returnType = some .int) (d : decode cc pc = .ok (.ireturn, 1)) {q : xw_M × Int32} (hR : some (h, v) = some q) : xj_X p l e R s m args below meth c G nL cells slots (MQ below (xw_Q G (some (.int q.2)) q.1) args s cells slots (xg_A G)) h lv pc [.int v] := by
  intro H locs ls hP hS hL
  cases hR
  have hlocks := C.2.2.2.2.2.2.2.2
  exact W.iret C.1 C.2.1 hr (fun t ht hW => ⟨rfl, by rw [ht]; exact hP, hS.F ht⟩) hS.2.2 d
theorem xr_zret (C : xj_C p s m args meth c G own cc nL) {v : Int32} (hr : meth.sig.returnType = some .boolean) (hv : v = 0 ∨ v = 1) (d : decode cc pc = .ok (.ireturn, 1)) {q : xw_M × Int32} (hR : some (h, v) = some q) : xj_X p l e R s m args below meth c G nL cells slots (MQ below (xw_Q G (some (.int q.2)) q.1) args s cells slots (xg_A G)) h lv pc [.int v] := by
  intro H locs ls hP hS hL
  cases hR
  have hlocks := C.2.2.2.2.2.2.2.2
  exact W.zret C.1 C.2.1 hr (by rcases hv with rfl | rfl <;> rfl) (fun t ht hW => ⟨rfl, by rw [ht]; exact hP, hS.F ht⟩) hS.2.2 d
theorem xr_zretG (C : xj_C p s m args meth c G own cc nL) {v : Int32} (hr : meth.sig.returnType = some .boolean) (d : decode cc pc = .ok (.ireturn, 1)) {q : xw_M × Int32} (hR : (if v = 0 ∨ v = 1 then some (h, v) else none) = some q) : xj_X p l e R s m args below meth c G nL cells slots (MQ below (xw_Q G (some (.int q.2)) q.1) args s cells slots (xg_A G)) h lv pc [.int v] := by
  have hv : v = 0 ∨ v = 1 := Classical.byContradiction fun z => by rw [if_neg z] at hR; cases hR
  exact xr_zret C hr hv d (xo_t hR hv)
theorem xr_vret (C : xj_C p s m args meth c G own cc nL) (hr : meth.sig.returnType = none) (d : decode cc pc = .ok (.return_, 1)) {q : xw_M × Unit} (hR : some (h, ()) = some q) : xj_X p l e R s m args below meth c G nL cells slots (MQ below (xw_Q G none q.1) args s cells slots (xg_A G)) h lv pc [] := by
  intro H locs ls hP hS hL
  cases hR
  have hlocks := C.2.2.2.2.2.2.2.2
  exact W.vret C.1 C.2.1 hr (fun t ht hW => ⟨rfl, by rw [ht]; exact hP, hS.F ht⟩) hS.2.2 d
theorem xr_aret (C : xj_C p s m args meth c G own cc nL) {k : Nat} {S : String} (hr : meth.sig.returnType = some (.object S)) (d : decode cc pc = .ok (.areturn, 1)) {q : xw_M × Nat} (hR : some (h, k) = some q) : xj_X p l e R s m args below meth c G nL cells slots (MQ below (xw_Q G (some (.ref (xg_ad G q.2))) q.1) args s cells slots (xg_A G)) h lv pc [.ref (xg_ad G k)] := by
  intro H locs ls hP hS hL
  cases hR
  have hlocks := C.2.2.2.2.2.2.2.2
  exact W.aret C.1 C.2.1 hr (Or.inl ⟨_, rfl⟩) (Or.inr ⟨_, rfl⟩) (fun t ht hW => ⟨rfl, by rw [ht]; exact hP, hS.F ht⟩) hS.2.2 d
theorem xr_lret (C : xj_C p s m args meth c G own cc nL) {v : Int64} (hr : meth.sig.returnType = some .long) (d : decode cc pc = .ok (.lreturn, 1)) {q : xw_M × Int64} (hR : some (h, v) = some q) : xj_X p l e R s m args below meth c G nL cells slots (MQ below (xw_Q G (some (.long q.2)) q.1) args s cells slots (xg_A G)) h lv pc [.long v] := by
  intro H locs ls hP hS hL
  cases hR
  have hlocks := C.2.2.2.2.2.2.2.2
  exact W.lret C.1 C.2.1 hr (fun t ht hW => ⟨rfl, by rw [ht]; exact hP, hS.F ht⟩) hS.2.2 d
/-! the calls -/
/-- a call by the receiver's class: its words, its method's -/
def xw_cv (own : String) (idx κ : Nat) (y : MethodName) (b : ByteArray) (n : Nat) (ret : Option FieldType) (na : Nat) : Prop :=
  (∀ w ∈ wsV own idx y.cls y (.code y b n ret :: []), w ∈ lw_g) ∧ (∃ r : vw_C, vwCl[κ]? = some r ∧ r.1 = y.cls) ∧ y.cls ≠ "java/lang/invoke/MethodHandle" ∧ y.cls ≠ "java/lang/invoke/VarHandle" ∧ (parseMethodDescriptor y.desc).map (fun d => d.parameters.length) = some na
def xw_cs (own : String) (idx : Nat) (y : MethodName) (b : ByteArray) (n : Nat) (ret : Option FieldType) (na : Nat) : Prop :=
  (∀ w ∈ wsS own idx y (.code y b n ret :: []), w ∈ lw_g) ∧ y.cls = own ∧ y.cls ≠ "java/lang/invoke/MethodHandle" ∧ y.cls ≠ "java/lang/invoke/VarHandle" ∧ (parseMethodDescriptor y.desc).map (fun d => d.parameters.length) = some na
theorem xw_goodV {own : String} {idx κ : Nat} {y : MethodName} {b : ByteArray} {n : Nat} {ret : Option FieldType} {na : Nat} (hc : xw_cv own idx κ y b n ret na) : GoodIn lw_g (wsV own idx y.cls y (.code y b n ret :: lw_g)) := by
  refine lw_g_good fun w hw => ?_
  rcases List.mem_append.mp (show w ∈ [Cond.methodLink own idx y, .instanceMethod y, .selects y.cls y y, .initialized y.cls] ++ (.code y b n ret :: lw_g) from hw) with h1 | h1
  · exact hc.1 w (List.mem_append.mpr (Or.inl h1))
  · rcases List.mem_cons.mp h1 with h2 | h2
    · exact hc.1 w (List.mem_append.mpr (Or.inr (h2 ▸ List.mem_cons_self)))
    · exact h2
theorem xw_goodS {own : String} {idx : Nat} {y : MethodName} {b : ByteArray} {n : Nat} {ret : Option FieldType} {na : Nat} (hc : xw_cs own idx y b n ret na) : GoodIn lw_g (wsS own idx y (.code y b n ret :: lw_g)) := by
  refine lw_g_good fun w hw => ?_
  rcases List.mem_append.mp (show w ∈ [Cond.methodLink own idx y, .static y, .initialized own] ++ (.code y b n ret :: lw_g) from hw) with h1 | h1
  · exact hc.1 w (List.mem_append.mpr (Or.inl h1))
  · rcases List.mem_cons.mp h1 with h2 | h2
    · exact hc.1 w (List.mem_append.mpr (Or.inr (h2 ▸ List.mem_cons_self)))
    · exact h2
/-- the start that a call hands on -/
theorem xj_S {H : Heap} {locs : List Loc} (C : xj_C p s m args meth c G own cc nL) (hP : xw_P G h H) (hS : va_S (xg_A G) s.heap H locs) {U : State} (hU : U.heap = H) (hW : s.WarmedH U.vm) : xw_S G h U :=
  ⟨by rw [hU]; exact hP, va_K.moved hW.alike C.2.2.2.2.2.1, C.2.2.2.2.2.2.1, by rw [hU]; exact C.2.2.2.2.2.2.2.1.warm hW hS.2.1⟩
theorem xr_goV {κ k n na idx fr lo : Nat} {y : MethodName} {b : ByteArray} {ret : Option FieldType} {As : List Value} {h' : xw_M} {rv : Option Value} (C : xj_C p s m args meth c G own cc nL) (hc : xw_cv own idx κ y b n ret na) (hk : xw_kd k = κ) (hM : xc_M l G y b n ret fr lo (.ref (xg_ad G k) :: As) h h' rv) (hn : As.length = na)
    (hR : fr + 1 ≤ R.frames ∧ 8 + (n + 11) + lo ≤ R.locals) (hst : (st.map fun v => v.category).sum ≤ 8) (hcs : cells ≤ R.cells ∧ slots ≤ R.slots) (d : decode cc pc = .ok (.invokevirtual idx, 3)) (K : xj_X p l e R s m args below meth c G nL cells slots Q h' lv (pc + 3) (rv.toList ++ st)) :
    xj_X p l e R s m args below meth c G nL cells slots Q h lv pc (As.reverse ++ .ref (xg_ad G k) :: st) := by
  intro H locs ls hP hS hL
  obtain ⟨hw, ⟨r, h1, h2⟩, h3⟩ := id hc
  obtain ⟨-, -, -, g4⟩ := xw_cl κ r h1
  have hl : k < xg_N G := Nat.lt_of_lt_of_le (xw_lt hk (by omega)) (Nat.le_of_succ_le C.2.2.2.2.2.2.1.1)
  have he : (xw_ws G h)[k]? = some (xg_ad G k, .inr (κ, xw_fs (xg_ad G) κ k (h k))) := by rw [xw_get hl, xw_ce, hk, xw_ct_lo g4]
  have hrv := va_recv C.2.2.2.2.2.1 hP h1 he
  rw [h2] at hrv
  have hrun := va_runV (g := F0 m pc ls (As.reverse ++ .ref (xg_ad G k) :: st)) (rest := st) (p := p) (e := e) (R := R) (below := below) (meth := meth) (locs := locs) (cells := cells) (slots := slots) ⟨C.1, C.2.1, C.2.2.1, C.2.2.2.1, C.2.2.2.2.1⟩ hM (cwV na C.2.2.2.2.1 (xw_goodV hc) rfl rfl rfl ⟨rfl, h3⟩ hR) ⟨xw_blind, hrv, fun U hU hW => ⟨rfl, xj_S C hP hS hU hW⟩⟩ rfl hn hL.1 rfl (lv_room hst) d ⟨by omega, by omega⟩
  intro T hT X
  obtain ⟨v, st₀, t, T', L, h0, X', hLf, e1, e2, ⟨hv, hP', hF⟩, stp⟩ := hrun T hT X
  obtain ⟨k1, k2, k3⟩ := vx_keep h0 e1 hS (fun _ _ z => z) (fun _ z => z) hLf hF
  cases hv
  obtain ⟨t2, a1, b1⟩ := K T'.heap (locs ++ L) ls (by rw [e1]; exact hP') k3 hL T' rfl X'
  exact ⟨t2, stp t2 a1, b1⟩
theorem xr_goS {n na idx fr lo : Nat} {y : MethodName} {b : ByteArray} {ret : Option FieldType} {As : List Value} {h' : xw_M} {rv : Option Value} (C : xj_C p s m args meth c G own cc nL) (hc : xw_cs own idx y b n ret na) (hM : xc_M l G y b n ret fr lo As h h' rv) (hn : As.length = na)
    (hR : fr + 1 ≤ R.frames ∧ 8 + (n + 11) + lo ≤ R.locals) (hst : (st.map fun v => v.category).sum ≤ 8) (hcs : cells ≤ R.cells ∧ slots ≤ R.slots) (d : decode cc pc = .ok (.invokestatic idx, 3)) (K : xj_X p l e R s m args below meth c G nL cells slots Q h' lv (pc + 3) (rv.toList ++ st)) :
    xj_X p l e R s m args below meth c G nL cells slots Q h lv pc (As.reverse ++ st) := by
  intro H locs ls hP hS hL
  have hrun := va_runS (g := F0 m pc ls (As.reverse ++ st)) (rest := st) (p := p) (e := e) (R := R) (below := below) (meth := meth) (locs := locs) (cells := cells) (slots := slots) (H := H) ⟨C.1, C.2.1, C.2.2.1, C.2.2.2.1, C.2.2.2.2.1⟩ hM (cwS na C.2.2.2.2.1 (xw_goodS hc) rfl rfl rfl hc.2 hR) ⟨xw_blind, fun U hU hW => ⟨rfl, xj_S C hP hS hU hW⟩⟩ rfl hn hL.1 rfl (lv_room hst) d ⟨by omega, by omega⟩
  intro T hT X
  obtain ⟨v, st₀, t, T', L, h0, X', hLf, e1, e2, ⟨hv, hP', hF⟩, stp⟩ := hrun T hT X
  obtain ⟨k1, k2, k3⟩ := vx_keep h0 e1 hS (fun _ _ z => z) (fun _ z => z) hLf hF
  cases hv
  obtain ⟨t2, a1, b1⟩ := K T'.heap (locs ++ L) ls (by rw [e1]; exact hP') k3 hL T' rfl X'
  exact ⟨t2, stp t2 a1, b1⟩
/-- a memory gets a name -/
def xo_let {α β : Type} (a : α) (f : α → β) : β := f a
theorem xj_ltN (C : xj_C p s m args meth c G own cc nL) {k κ : Nat} (hk : xw_kd k = κ) (hκ : κ < 13) : k < xg_N G := Nat.lt_of_lt_of_le (xw_lt hk hκ) (Nat.le_of_succ_le C.2.2.2.2.2.2.1.1)
theorem xr_putL (C : xj_C p s m args meth c G own cc nL) {k κ j idx : Nat} {v : Int32} (hk : xw_kd k = κ) (F : xw_fl own idx κ j) (hp : xw_pf κ j) (d : decode cc pc = .ok (.putfield idx, 3)) {α : Type} {f : xw_M → Option α} {r : Option α} (hR : xo_let (xw_st h k j v) f = r) (K : ∀ h1 : xw_M, f h1 = r → xj_X p l e R s m args below meth c G nL cells slots Q h1 lv (pc + 3) st) : xj_X p l e R s m args below meth c G nL cells slots Q h lv pc (.int v :: .ref (xg_ad G k) :: st) := xr_put C hk F hp d (K _ hR)
theorem xr_iastL (C : xj_C p s m args meth c G own cc nL) {k κ n : Nat} {i x : Int32} (hk : xw_kd k = κ) (hl : k < xg_N G) (ha : xw_al κ = some n) (d : decode cc pc = .ok (.iastore, 1)) {α : Type} {f : xw_M → Option α} {q : α} (hR : (if xo_ix i n = true then xo_let (xw_st h k i.toNatClampNeg x) f else none) = some q) (K : ∀ h1 : xw_M, f h1 = some q → xj_X p l e R s m args below meth c G nL cells slots Q h1 lv (pc + 1) st) : xj_X p l e R s m args below meth c G nL cells slots Q h lv pc (.int x :: .int i :: .ref (xg_ad G k) :: st) := xr_iast C hk hl ha d hR (fun z => K _ z)
theorem xr_iastLC (C : xj_C p s m args meth c G own cc nL) {k κ n : Nat} {i x : Int32} (hk : xw_kd k = κ) (hl : k < xg_N G) (ha : xw_al κ = some n) (hi : xo_ix i n = true) (d : decode cc pc = .ok (.iastore, 1)) {α : Type} {f : xw_M → Option α} {r : Option α} (hR : xo_let (xw_st h k i.toNatClampNeg x) f = r) (K : ∀ h1 : xw_M, f h1 = r → xj_X p l e R s m args below meth c G nL cells slots Q h1 lv (pc + 1) st) : xj_X p l e R s m args below meth c G nL cells slots Q h lv pc (.int x :: .int i :: .ref (xg_ad G k) :: st) := xr_iastC C hk hl ha hi d (K _ hR)
theorem xr_callVi (C : xj_C p s m args meth c G own cc nL) {κ k n na idx fr lo : Nat} {y : MethodName} {b : ByteArray} {ret : Option FieldType} {stk : List Value} (As : List Value) {o : Option (xw_M × Int32)} {α : Type} {F : xw_M × Int32 → Option α} {q : α} (hc : xw_cv own idx κ y b n ret na) (hk : xw_kd k = κ) (hM : ∀ r, o = some r → xc_M l G y b n ret fr lo (.ref (xg_ad G k) :: As) h r.1 (some (.int r.2))) (hn : As.length = na) (hR9 : fr + 1 ≤ R.frames ∧ 8 + (n + 11) + lo ≤ R.locals) (hst : (st.map fun v => v.category).sum ≤ 8) (hcs : cells ≤ R.cells ∧ slots ≤ R.slots) (hs : stk = As.reverse ++ .ref (xg_ad G k) :: st) (d : decode cc pc = .ok (.invokevirtual idx, 3)) (hR : o.bind F = some q) (K : ∀ r, o = some r → F r = some q → xj_X p l e R s m args below meth c G nL cells slots Q r.1 lv (pc + 3) (.int r.2 :: st)) : xj_X p l e R s m args below meth c G nL cells slots Q h lv pc stk := by
  obtain ⟨r, h1, h2⟩ := xo_b hR
  rw [hs]
  exact xr_goV C hc hk (hM r h1) hn hR9 hst hcs d (K r h1 h2)
theorem xr_callSi (C : xj_C p s m args meth c G own cc nL) {n na idx fr lo : Nat} {y : MethodName} {b : ByteArray} {ret : Option FieldType} {stk : List Value} (As : List Value) {o : Option (xw_M × Int32)} {α : Type} {F : xw_M × Int32 → Option α} {q : α} (hc : xw_cs own idx y b n ret na) (hM : ∀ r, o = some r → xc_M l G y b n ret fr lo As h r.1 (some (.int r.2))) (hn : As.length = na) (hR9 : fr + 1 ≤ R.frames ∧ 8 + (n + 11) + lo ≤ R.locals) (hst : (st.map fun v => v.category).sum ≤ 8) (hcs : cells ≤ R.cells ∧ slots ≤ R.slots) (hs : stk = As.reverse ++ st) (d : decode cc pc = .ok (.invokestatic idx, 3)) (hR : o.bind F = some q) (K : ∀ r, o = some r → F r = some q → xj_X p l e R s m args below meth c G nL cells slots Q r.1 lv (pc + 3) (.int r.2 :: st)) : xj_X p l e R s m args below meth c G nL cells slots Q h lv pc stk := by
  obtain ⟨r, h1, h2⟩ := xo_b hR
  rw [hs]
  exact xr_goS C hc (hM r h1) hn hR9 hst hcs d (K r h1 h2)
theorem xr_callVv (C : xj_C p s m args meth c G own cc nL) {κ k n na idx fr lo : Nat} {y : MethodName} {b : ByteArray} {ret : Option FieldType} {stk : List Value} (As : List Value) {o : Option (xw_M × Unit)} {α : Type} {F : xw_M × Unit → Option α} {q : α} (hc : xw_cv own idx κ y b n ret na) (hk : xw_kd k = κ) (hM : ∀ r, o = some r → xc_M l G y b n ret fr lo (.ref (xg_ad G k) :: As) h r.1 none) (hn : As.length = na) (hR9 : fr + 1 ≤ R.frames ∧ 8 + (n + 11) + lo ≤ R.locals) (hst : (st.map fun v => v.category).sum ≤ 8) (hcs : cells ≤ R.cells ∧ slots ≤ R.slots) (hs : stk = As.reverse ++ .ref (xg_ad G k) :: st) (d : decode cc pc = .ok (.invokevirtual idx, 3)) (hR : o.bind F = some q) (K : ∀ r, o = some r → F r = some q → xj_X p l e R s m args below meth c G nL cells slots Q r.1 lv (pc + 3) st) : xj_X p l e R s m args below meth c G nL cells slots Q h lv pc stk := by
  obtain ⟨r, h1, h2⟩ := xo_b hR
  rw [hs]
  exact xr_goV C hc hk (hM r h1) hn hR9 hst hcs d (K r h1 h2)
theorem xr_callSv (C : xj_C p s m args meth c G own cc nL) {n na idx fr lo : Nat} {y : MethodName} {b : ByteArray} {ret : Option FieldType} {stk : List Value} (As : List Value) {o : Option (xw_M × Unit)} {α : Type} {F : xw_M × Unit → Option α} {q : α} (hc : xw_cs own idx y b n ret na) (hM : ∀ r, o = some r → xc_M l G y b n ret fr lo As h r.1 none) (hn : As.length = na) (hR9 : fr + 1 ≤ R.frames ∧ 8 + (n + 11) + lo ≤ R.locals) (hst : (st.map fun v => v.category).sum ≤ 8) (hcs : cells ≤ R.cells ∧ slots ≤ R.slots) (hs : stk = As.reverse ++ st) (d : decode cc pc = .ok (.invokestatic idx, 3)) (hR : o.bind F = some q) (K : ∀ r, o = some r → F r = some q → xj_X p l e R s m args below meth c G nL cells slots Q r.1 lv (pc + 3) st) : xj_X p l e R s m args below meth c G nL cells slots Q h lv pc stk := by
  obtain ⟨r, h1, h2⟩ := xo_b hR
  rw [hs]
  exact xr_goS C hc (hM r h1) hn hR9 hst hcs d (K r h1 h2)
theorem xr_callVr (C : xj_C p s m args meth c G own cc nL) {κ k n na idx fr lo : Nat} {y : MethodName} {b : ByteArray} {ret : Option FieldType} {stk : List Value} (As : List Value) {o : Option (xw_M × Nat)} {α : Type} {F : xw_M × Nat → Option α} {q : α} (hc : xw_cv own idx κ y b n ret na) (hk : xw_kd k = κ) (hM : ∀ r, o = some r → xc_M l G y b n ret fr lo (.ref (xg_ad G k) :: As) h r.1 (some (.ref (xg_ad G r.2)))) (hn : As.length = na) (hR9 : fr + 1 ≤ R.frames ∧ 8 + (n + 11) + lo ≤ R.locals) (hst : (st.map fun v => v.category).sum ≤ 8) (hcs : cells ≤ R.cells ∧ slots ≤ R.slots) (hs : stk = As.reverse ++ .ref (xg_ad G k) :: st) (d : decode cc pc = .ok (.invokevirtual idx, 3)) (hR : o.bind F = some q) (K : ∀ r, o = some r → F r = some q → xj_X p l e R s m args below meth c G nL cells slots Q r.1 lv (pc + 3) (.ref (xg_ad G r.2) :: st)) : xj_X p l e R s m args below meth c G nL cells slots Q h lv pc stk := by
  obtain ⟨r, h1, h2⟩ := xo_b hR
  rw [hs]
  exact xr_goV C hc hk (hM r h1) hn hR9 hst hcs d (K r h1 h2)
theorem xr_callSr (C : xj_C p s m args meth c G own cc nL) {n na idx fr lo : Nat} {y : MethodName} {b : ByteArray} {ret : Option FieldType} {stk : List Value} (As : List Value) {o : Option (xw_M × Nat)} {α : Type} {F : xw_M × Nat → Option α} {q : α} (hc : xw_cs own idx y b n ret na) (hM : ∀ r, o = some r → xc_M l G y b n ret fr lo As h r.1 (some (.ref (xg_ad G r.2)))) (hn : As.length = na) (hR9 : fr + 1 ≤ R.frames ∧ 8 + (n + 11) + lo ≤ R.locals) (hst : (st.map fun v => v.category).sum ≤ 8) (hcs : cells ≤ R.cells ∧ slots ≤ R.slots) (hs : stk = As.reverse ++ st) (d : decode cc pc = .ok (.invokestatic idx, 3)) (hR : o.bind F = some q) (K : ∀ r, o = some r → F r = some q → xj_X p l e R s m args below meth c G nL cells slots Q r.1 lv (pc + 3) (.ref (xg_ad G r.2) :: st)) : xj_X p l e R s m args below meth c G nL cells slots Q h lv pc stk := by
  obtain ⟨r, h1, h2⟩ := xo_b hR
  rw [hs]
  exact xr_goS C hc (hM r h1) hn hR9 hst hcs d (K r h1 h2)
theorem xr_callVl (C : xj_C p s m args meth c G own cc nL) {κ k n na idx fr lo : Nat} {y : MethodName} {b : ByteArray} {ret : Option FieldType} {stk : List Value} (As : List Value) {o : Option (xw_M × Int64)} {α : Type} {F : xw_M × Int64 → Option α} {q : α} (hc : xw_cv own idx κ y b n ret na) (hk : xw_kd k = κ) (hM : ∀ r, o = some r → xc_M l G y b n ret fr lo (.ref (xg_ad G k) :: As) h r.1 (some (.long r.2))) (hn : As.length = na) (hR9 : fr + 1 ≤ R.frames ∧ 8 + (n + 11) + lo ≤ R.locals) (hst : (st.map fun v => v.category).sum ≤ 8) (hcs : cells ≤ R.cells ∧ slots ≤ R.slots) (hs : stk = As.reverse ++ .ref (xg_ad G k) :: st) (d : decode cc pc = .ok (.invokevirtual idx, 3)) (hR : o.bind F = some q) (K : ∀ r, o = some r → F r = some q → xj_X p l e R s m args below meth c G nL cells slots Q r.1 lv (pc + 3) (.long r.2 :: st)) : xj_X p l e R s m args below meth c G nL cells slots Q h lv pc stk := by
  obtain ⟨r, h1, h2⟩ := xo_b hR
  rw [hs]
  exact xr_goV C hc hk (hM r h1) hn hR9 hst hcs d (K r h1 h2)
theorem xr_callSl (C : xj_C p s m args meth c G own cc nL) {n na idx fr lo : Nat} {y : MethodName} {b : ByteArray} {ret : Option FieldType} {stk : List Value} (As : List Value) {o : Option (xw_M × Int64)} {α : Type} {F : xw_M × Int64 → Option α} {q : α} (hc : xw_cs own idx y b n ret na) (hM : ∀ r, o = some r → xc_M l G y b n ret fr lo As h r.1 (some (.long r.2))) (hn : As.length = na) (hR9 : fr + 1 ≤ R.frames ∧ 8 + (n + 11) + lo ≤ R.locals) (hst : (st.map fun v => v.category).sum ≤ 8) (hcs : cells ≤ R.cells ∧ slots ≤ R.slots) (hs : stk = As.reverse ++ st) (d : decode cc pc = .ok (.invokestatic idx, 3)) (hR : o.bind F = some q) (K : ∀ r, o = some r → F r = some q → xj_X p l e R s m args below meth c G nL cells slots Q r.1 lv (pc + 3) (.long r.2 :: st)) : xj_X p l e R s m args below meth c G nL cells slots Q h lv pc stk := by
  obtain ⟨r, h1, h2⟩ := xo_b hR
  rw [hs]
  exact xr_goS C hc (hM r h1) hn hR9 hst hcs d (K r h1 h2)
/-! less known of the locals -/
def xj_le : List (Option Value) → List (Option Value) → Prop
  | [], _ => True
  | none :: a, _ :: b => xj_le a b
  | some v :: a, x :: b => x = some v ∧ xj_le a b
  | none :: _, [] => False
  | some _ :: _, [] => False
theorem xj_le_at : ∀ (a b : List (Option Value)), xj_le a b → ∀ (i : Nat) (v : Value), a[i]? = some (some v) → b[i]? = some (some v)
  | [], _, _, i, v, h => by simp at h
  | none :: a, x :: b, hab, 0, v, h => by simp at h
  | none :: a, x :: b, hab, i + 1, v, h => by
    rw [List.getElem?_cons_succ] at h ⊢
    exact xj_le_at a b hab i v h
  | some u :: a, x :: b, hab, 0, v, h => by
    rw [List.getElem?_cons_zero] at h ⊢
    cases h
    rw [hab.1]
  | some u :: a, x :: b, hab, i + 1, v, h => by
    rw [List.getElem?_cons_succ] at h ⊢
    exact xj_le_at a b hab.2 i v h
  | none :: _, [], hab, _, _, _ => False.elim hab
  | some _ :: _, [], hab, _, _, _ => False.elim hab
theorem xr_sub {lv9 : List (Option Value)} (hle : xj_le lv9 lv) (K : xj_X p l e R s m args below meth c G nL cells slots Q h lv9 pc st) : xj_X p l e R s m args below meth c G nL cells slots Q h lv pc st := fun H locs ls hP hS hL => K H locs ls hP hS ⟨hL.1, hL.2.1, fun i v hi => hL.2.2 i v (xj_le_at lv9 lv hle i v hi)⟩
/-- the fuel of the pure loops -/
def xo_n : Nat := 300
theorem xo_if {α : Type} {P : Prop} {iP : Decidable P} {A B r : Option α} {X : Prop} (hR : (if P then A else B) = r) (kt : P → A = r → X) (kf : ¬ P → B = r → X) : X := by
  by_cases hp : P
  · exact kt hp (xo_t hR hp)
  · exact kf hp (xo_f hR hp)
theorem xo_tab7 {x : Int32} (h0 : ¬ x = 0) (h1 : ¬ x = 1) (h2 : ¬ x = 2) (h3 : ¬ x = 3) (h4 : ¬ x = 4) (h5 : ¬ x = 5) (h6 : ¬ x = 6) : x.toInt < 0 ∨ 6 < x.toInt := by
  have e : ∀ n : Nat, n < 7 → ¬ x = Int32.ofNat n → x.toInt ≠ n := by
    intro n hn hx h
    apply hx
    apply Int32.toInt_inj.mp
    rw [h]
    rcases (show n = 0 ∨ n = 1 ∨ n = 2 ∨ n = 3 ∨ n = 4 ∨ n = 5 ∨ n = 6 by omega) with rfl | rfl | rfl | rfl | rfl | rfl | rfl <;> rfl
  have e0 := e 0 (by omega) h0
  have e1 := e 1 (by omega) h1
  have e2 := e 2 (by omega) h2
  have e3 := e 3 (by omega) h3
  have e4 := e 4 (by omega) h4
  have e5 := e 5 (by omega) h5
  have e6 := e 6 (by omega) h6
  omega
/-! copies -/
def xw_cp (h : xw_M) (ks : Nat) (sp : Int32) (kd : Nat) (dp n : Int32) : xw_M := fun a => if a = kd then va_cpy (h ks) (h kd) sp.toNatClampNeg dp.toNatClampNeg n.toNatClampNeg else h a
def xo_cp (sp dp n : Int32) (n0 n1 : Nat) : Bool := decide (¬ sp < 0) && decide (¬ dp < 0) && decide (¬ n < 0) && decide (sp.toNatClampNeg + n.toNatClampNeg ≤ n0) && decide (dp.toNatClampNeg + n.toNatClampNeg ≤ n1)
/-- the words of System.arraycopy -/
def xw_sy (own : String) (idx : Nat) : Prop := Cond.methodLink own idx arraycopyName ∈ lw_g ∧ Cond.native arraycopyName ∈ lw_g ∧ Cond.static arraycopyName ∈ lw_g ∧ Cond.initialized "java/lang/System" ∈ lw_g
theorem xw_fit {x : Int32} : fits .int (.int x) = true := rfl
theorem xr_copy (C : xj_C p s m args meth c G own cc nL) {k0 k1 κ0 κ1 n0 n1 idx : Nat} {sp dp n : Int32} (hw : xw_sy own idx) (hk0 : xw_kd k0 = κ0) (hl0 : k0 < xg_N G) (ha0 : xw_al κ0 = some n0) (hk1 : xw_kd k1 = κ1) (hl1 : k1 < xg_N G) (ha1 : xw_al κ1 = some n1) (hfr : 1 ≤ R.frames) (hlo : (st.map fun v => v.category).sum + (nativeFrameWords "java/lang/System" "arraycopy" 5 + 11) ≤ R.locals) (d : decode cc pc = .ok (.invokestatic idx, 3)) {α : Type} {f : xw_M → Option α} {q : α} (hR : (if xo_cp sp dp n n0 n1 = true then xo_let (xw_cp h k0 sp k1 dp n) f else none) = some q) (K : ∀ h1 : xw_M, f h1 = some q → xj_X p l e R s m args below meth c G nL cells slots Q h1 lv (pc + 3) st) : xj_X p l e R s m args below meth c G nL cells slots Q h lv pc (.int n :: .int dp :: .ref (xg_ad G k1) :: .int sp :: .ref (xg_ad G k0) :: st) := by
  intro H locs ls hP hS hL
  have he0 : (xw_ws G h)[k0]? = some (xg_ad G k0, .inl (xg_T G 0, n0, .inl (h k0))) := by rw [xw_get hl0, xw_ce, hk0, xw_al_ct ha0]
  have he1 : (xw_ws G h)[k1]? = some (xg_ad G k1, .inl (xg_T G 0, n1, .inl (h k1))) := by rw [xw_get hl1, xw_ce, hk1, xw_al_ct ha1]
  have hi : xo_cp sp dp n n0 n1 = true := Classical.byContradiction fun z => by rw [if_neg z] at hR; cases hR
  have hR2 := xo_t hR hi
  unfold xo_cp at hi
  simp only [Bool.and_eq_true, decide_eq_true_eq] at hi
  obtain ⟨⟨⟨⟨i1, i2⟩, i3⟩, i4⟩, i5⟩ := hi
  refine va_copyi C.1 C.2.1 (C.2.2.1.trans hL.1.symm) C.2.2.2.1 (C.2.2.2.2.1 _ hw.1) (C.2.2.2.2.1 _ hw.2.1) (C.2.2.2.2.1 _ hw.2.2.1) (C.2.2.2.2.1 _ hw.2.2.2) C.2.2.2.2.2.1 hP (xw_D C.2.2.2.2.2.2.1 h) hS k0 k1 0 0 he0 he1 rfl rfl rfl i1 i2 i3 i4 i5 (fun _ _ => xw_fit) hfr hlo d (fun H1 locs1 hP1 hD1 hS1 => ?_)
  rw [xw_set (h' := xw_cp h k0 sp k1 dp n) hl1 (by unfold xw_ce xw_cp; rw [hk1, xw_al_ct ha1, if_pos rfl]) (fun a ha => by unfold xw_ce xw_cp; rw [if_neg ha])] at hP1
  exact K _ hR2 H1 locs1 ls hP1 hS1 hL
/-! the array of longs -/
theorem xw_lo {G : xw_G} {h : xw_M} {k : Nat} (hk : xw_kd k = 15) (hl : k < xg_N G) : (xw_ws G h)[k]? = some (xg_ad G k, .inl (xg_T G 4, 1, .inr (.inl (fun j => if j = 0 then (h k 0).toInt64 else 0)))) := by rw [xw_get hl, xw_ce, hk]; rfl
theorem xr_last (C : xj_C p s m args meth c G own cc nL) {k : Nat} {x : Int32} (hk : xw_kd k = 15) (hl : k < xg_N G) (d : decode cc pc = .ok (.lastore, 1)) {α : Type} {f : xw_M → Option α} {r : Option α} (hR : xo_let (xw_st h k 0 x) f = r) (K : ∀ h1 : xw_M, f h1 = r → xj_X p l e R s m args below meth c G nL cells slots Q h1 lv (pc + 1) st) : xj_X p l e R s m args below meth c G nL cells slots Q h lv pc (.long x.toInt64 :: .int 0 :: .ref (xg_ad G k) :: st) := by
  intro H locs ls hP hS hL
  refine va_last C.1 C.2.1 C.2.2.2.2.2.1 hP (xw_D C.2.2.2.2.2.2.1 h) hS k 4 (xw_lo hk hl) rfl (vp_in_iff.mpr (by decide)) d (fun H1 locs1 hP1 hD1 hS1 => ?_)
  rw [xw_set_st hl (j := 0) (v := x) (by rw [hk]; exact congrArg (fun f => Sum.inl (xg_T G 4, 1, Sum.inr (Sum.inl f))) (funext fun j => by by_cases hj : j = 0 <;> simp [vp_updL, upd, hj]))] at hP1
  exact K _ hR H1 locs1 ls hP1 hS1 hL
theorem xr_lald (C : xj_C p s m args meth c G own cc nL) {k : Nat} (hk : xw_kd k = 15) (hl : k < xg_N G) (d : decode cc pc = .ok (.laload, 1)) (K : xj_X p l e R s m args below meth c G nL cells slots Q h lv (pc + 1) (.long (h k 0).toInt64 :: st)) : xj_X p l e R s m args below meth c G nL cells slots Q h lv pc (.int 0 :: .ref (xg_ad G k) :: st) := fun H locs ls hP hS hL => va_lald C.1 C.2.1 C.2.2.2.2.2.1 hP k 4 (xw_lo hk hl) rfl (vp_in_iff.mpr (by decide)) d (K H locs ls hP hS hL)
theorem xr_lcmp (C : xj_C p s m args meth c G own cc nL) {x y : Int64} (d : decode cc pc = .ok (.lcmp, 1)) (K : xj_X p l e R s m args below meth c G nL cells slots Q h lv (pc + 1) (.int (lg_cmp x y) :: st)) : xj_X p l e R s m args below meth c G nL cells slots Q h lv pc (.long y :: .long x :: st) := fun H locs ls hP hS hL => W.lcmp C.1 C.2.1 d (K H locs ls hP hS hL)
end XJ
end
section
set_option maxRecDepth 20000 in
theorem fl_RX0_10 : xw_fl RX0 10 0 1 := ⟨_, rfl, by decide, rfl, lw_g_in (by decide +kernel) (by decide +kernel)⟩
set_option maxRecDepth 20000 in
theorem fl_RX0_16 : xw_fl RX0 16 0 2 := ⟨_, rfl, by decide, rfl, lw_g_in (by decide +kernel) (by decide +kernel)⟩
set_option maxRecDepth 20000 in
theorem fl_RX0_19 : xw_fl RX0 19 0 3 := ⟨_, rfl, by decide, rfl, lw_g_in (by decide +kernel) (by decide +kernel)⟩
set_option maxRecDepth 20000 in
theorem fl_RX0_22 : xw_fl RX0 22 3 1 := ⟨_, rfl, by decide, rfl, lw_g_in (by decide +kernel) (by decide +kernel)⟩
set_option maxRecDepth 20000 in
theorem fl_RX0_26 : xw_fl RX0 26 0 0 := ⟨_, rfl, by decide, rfl, lw_g_in (by decide +kernel) (by decide +kernel)⟩
set_option maxRecDepth 20000 in
theorem fl_RX1_11 : xw_fl RX1 11 1 0 := ⟨_, rfl, by decide, rfl, lw_g_in (by decide +kernel) (by decide +kernel)⟩
set_option maxRecDepth 20000 in
theorem fl_RX1_19 : xw_fl RX1 19 1 1 := ⟨_, rfl, by decide, rfl, lw_g_in (by decide +kernel) (by decide +kernel)⟩
set_option maxRecDepth 20000 in
theorem fl_RX1_24 : xw_fl RX1 24 1 2 := ⟨_, rfl, by decide, rfl, lw_g_in (by decide +kernel) (by decide +kernel)⟩
set_option maxRecDepth 20000 in
theorem fl_RX1_31 : xw_fl RX1 31 1 3 := ⟨_, rfl, by decide, rfl, lw_g_in (by decide +kernel) (by decide +kernel)⟩
set_option maxRecDepth 20000 in
theorem fl_RX1_38 : xw_fl RX1 38 1 4 := ⟨_, rfl, by decide, rfl, lw_g_in (by decide +kernel) (by decide +kernel)⟩
set_option maxRecDepth 20000 in
theorem fl_RX1_42 : xw_fl RX1 42 1 5 := ⟨_, rfl, by decide, rfl, lw_g_in (by decide +kernel) (by decide +kernel)⟩
set_option maxRecDepth 20000 in
theorem fl_RX1_46 : xw_fl RX1 46 1 6 := ⟨_, rfl, by decide, rfl, lw_g_in (by decide +kernel) (by decide +kernel)⟩
set_option maxRecDepth 20000 in
theorem fl_RX1_49 : xw_fl RX1 49 1 7 := ⟨_, rfl, by decide, rfl, lw_g_in (by decide +kernel) (by decide +kernel)⟩
set_option maxRecDepth 20000 in
theorem fl_RX1_52 : xw_fl RX1 52 1 8 := ⟨_, rfl, by decide, rfl, lw_g_in (by decide +kernel) (by decide +kernel)⟩
set_option maxRecDepth 20000 in
theorem fl_RX1_73 : xw_fl RX1 73 2 1 := ⟨_, rfl, by decide, rfl, lw_g_in (by decide +kernel) (by decide +kernel)⟩
set_option maxRecDepth 20000 in
theorem fl_RX1_83 : xw_fl RX1 83 3 1 := ⟨_, rfl, by decide, rfl, lw_g_in (by decide +kernel) (by decide +kernel)⟩
set_option maxRecDepth 20000 in
theorem fl_RX1_89 : xw_fl RX1 89 2 5 := ⟨_, rfl, by decide, rfl, lw_g_in (by decide +kernel) (by decide +kernel)⟩
set_option maxRecDepth 20000 in
theorem fl_RX1_103 : xw_fl RX1 103 2 0 := ⟨_, rfl, by decide, rfl, lw_g_in (by decide +kernel) (by decide +kernel)⟩
set_option maxRecDepth 20000 in
theorem fl_RX1_109 : xw_fl RX1 109 2 6 := ⟨_, rfl, by decide, rfl, lw_g_in (by decide +kernel) (by decide +kernel)⟩
set_option maxRecDepth 20000 in
theorem fl_RX1_115 : xw_fl RX1 115 2 2 := ⟨_, rfl, by decide, rfl, lw_g_in (by decide +kernel) (by decide +kernel)⟩
set_option maxRecDepth 20000 in
theorem fl_RX1_122 : xw_fl RX1 122 4 0 := ⟨_, rfl, by decide, rfl, lw_g_in (by decide +kernel) (by decide +kernel)⟩
set_option maxRecDepth 20000 in
theorem fl_RX1_127 : xw_fl RX1 127 4 1 := ⟨_, rfl, by decide, rfl, lw_g_in (by decide +kernel) (by decide +kernel)⟩
set_option maxRecDepth 20000 in
theorem fl_RX1_130 : xw_fl RX1 130 4 2 := ⟨_, rfl, by decide, rfl, lw_g_in (by decide +kernel) (by decide +kernel)⟩
set_option maxRecDepth 20000 in
theorem fl_RX1_137 : xw_fl RX1 137 2 3 := ⟨_, rfl, by decide, rfl, lw_g_in (by decide +kernel) (by decide +kernel)⟩
set_option maxRecDepth 20000 in
theorem fl_RX1_157 : xw_fl RX1 157 0 1 := ⟨_, rfl, by decide, rfl, lw_g_in (by decide +kernel) (by decide +kernel)⟩
set_option maxRecDepth 20000 in
theorem fl_RX1_160 : xw_fl RX1 160 0 3 := ⟨_, rfl, by decide, rfl, lw_g_in (by decide +kernel) (by decide +kernel)⟩
set_option maxRecDepth 20000 in
theorem fl_RX1_166 : xw_fl RX1 166 0 2 := ⟨_, rfl, by decide, rfl, lw_g_in (by decide +kernel) (by decide +kernel)⟩
set_option maxRecDepth 20000 in
theorem fl_RX2_9 : xw_fl RX2 9 2 1 := ⟨_, rfl, by decide, rfl, lw_g_in (by decide +kernel) (by decide +kernel)⟩
set_option maxRecDepth 20000 in
theorem fl_RX2_17 : xw_fl RX2 17 2 8 := ⟨_, rfl, by decide, rfl, lw_g_in (by decide +kernel) (by decide +kernel)⟩
set_option maxRecDepth 20000 in
theorem fl_RX2_22 : xw_fl RX2 22 2 9 := ⟨_, rfl, by decide, rfl, lw_g_in (by decide +kernel) (by decide +kernel)⟩
set_option maxRecDepth 20000 in
theorem fl_RX2_29 : xw_fl RX2 29 2 2 := ⟨_, rfl, by decide, rfl, lw_g_in (by decide +kernel) (by decide +kernel)⟩
set_option maxRecDepth 20000 in
theorem fl_RX2_32 : xw_fl RX2 32 2 7 := ⟨_, rfl, by decide, rfl, lw_g_in (by decide +kernel) (by decide +kernel)⟩
set_option maxRecDepth 20000 in
theorem fl_RX2_35 : xw_fl RX2 35 2 4 := ⟨_, rfl, by decide, rfl, lw_g_in (by decide +kernel) (by decide +kernel)⟩
set_option maxRecDepth 20000 in
theorem fl_RX2_38 : xw_fl RX2 38 4 3 := ⟨_, rfl, by decide, rfl, lw_g_in (by decide +kernel) (by decide +kernel)⟩
set_option maxRecDepth 20000 in
theorem fl_RX2_41 : xw_fl RX2 41 4 2 := ⟨_, rfl, by decide, rfl, lw_g_in (by decide +kernel) (by decide +kernel)⟩
set_option maxRecDepth 20000 in
theorem fl_RX2_44 : xw_fl RX2 44 4 1 := ⟨_, rfl, by decide, rfl, lw_g_in (by decide +kernel) (by decide +kernel)⟩
set_option maxRecDepth 20000 in
theorem fl_RX2_50 : xw_fl RX2 50 2 3 := ⟨_, rfl, by decide, rfl, lw_g_in (by decide +kernel) (by decide +kernel)⟩
set_option maxRecDepth 20000 in
theorem fl_RX2_53 : xw_fl RX2 53 2 5 := ⟨_, rfl, by decide, rfl, lw_g_in (by decide +kernel) (by decide +kernel)⟩
set_option maxRecDepth 20000 in
theorem fl_RX2_56 : xw_fl RX2 56 2 6 := ⟨_, rfl, by decide, rfl, lw_g_in (by decide +kernel) (by decide +kernel)⟩
set_option maxRecDepth 20000 in
theorem fl_RX3_9 : xw_fl RX3 9 3 0 := ⟨_, rfl, by decide, rfl, lw_g_in (by decide +kernel) (by decide +kernel)⟩
set_option maxRecDepth 20000 in
theorem fl_RX3_15 : xw_fl RX3 15 3 1 := ⟨_, rfl, by decide, rfl, lw_g_in (by decide +kernel) (by decide +kernel)⟩
set_option maxRecDepth 20000 in
theorem fl_RX4_9 : xw_fl RX4 9 4 0 := ⟨_, rfl, by decide, rfl, lw_g_in (by decide +kernel) (by decide +kernel)⟩
set_option maxRecDepth 20000 in
theorem fl_RX4_15 : xw_fl RX4 15 4 1 := ⟨_, rfl, by decide, rfl, lw_g_in (by decide +kernel) (by decide +kernel)⟩
set_option maxRecDepth 20000 in
theorem fl_RX4_18 : xw_fl RX4 18 4 2 := ⟨_, rfl, by decide, rfl, lw_g_in (by decide +kernel) (by decide +kernel)⟩
set_option maxRecDepth 20000 in
theorem fl_RX4_21 : xw_fl RX4 21 4 3 := ⟨_, rfl, by decide, rfl, lw_g_in (by decide +kernel) (by decide +kernel)⟩
set_option maxRecDepth 20000 in
theorem fl_RX5_10 : xw_fl RX5 10 5 0 := ⟨_, rfl, by decide, rfl, lw_g_in (by decide +kernel) (by decide +kernel)⟩
set_option maxRecDepth 20000 in
theorem fl_RX5_16 : xw_fl RX5 16 5 1 := ⟨_, rfl, by decide, rfl, lw_g_in (by decide +kernel) (by decide +kernel)⟩
set_option maxRecDepth 20000 in
theorem fl_RX5_26 : xw_fl RX5 26 1 5 := ⟨_, rfl, by decide, rfl, lw_g_in (by decide +kernel) (by decide +kernel)⟩
set_option maxRecDepth 20000 in
theorem fl_RX5_44 : xw_fl RX5 44 1 6 := ⟨_, rfl, by decide, rfl, lw_g_in (by decide +kernel) (by decide +kernel)⟩
set_option maxRecDepth 20000 in
theorem fl_RX5_63 : xw_fl RX5 63 2 7 := ⟨_, rfl, by decide, rfl, lw_g_in (by decide +kernel) (by decide +kernel)⟩
set_option maxRecDepth 20000 in
theorem fl_RX5_124 : xw_fl RX5 124 1 8 := ⟨_, rfl, by decide, rfl, lw_g_in (by decide +kernel) (by decide +kernel)⟩
set_option maxRecDepth 20000 in
theorem fl_RX5_130 : xw_fl RX5 130 1 7 := ⟨_, rfl, by decide, rfl, lw_g_in (by decide +kernel) (by decide +kernel)⟩
set_option maxRecDepth 20000 in
theorem fl_RX5_137 : xw_fl RX5 137 1 4 := ⟨_, rfl, by decide, rfl, lw_g_in (by decide +kernel) (by decide +kernel)⟩
set_option maxRecDepth 20000 in
theorem fl_RX6_9 : xw_fl RX6 9 6 3 := ⟨_, rfl, by decide, rfl, lw_g_in (by decide +kernel) (by decide +kernel)⟩
set_option maxRecDepth 20000 in
theorem fl_RX6_13 : xw_fl RX6 13 6 4 := ⟨_, rfl, by decide, rfl, lw_g_in (by decide +kernel) (by decide +kernel)⟩
set_option maxRecDepth 20000 in
theorem fl_RX6_16 : xw_fl RX6 16 6 5 := ⟨_, rfl, by decide, rfl, lw_g_in (by decide +kernel) (by decide +kernel)⟩
set_option maxRecDepth 20000 in
theorem fl_RX6_19 : xw_fl RX6 19 6 6 := ⟨_, rfl, by decide, rfl, lw_g_in (by decide +kernel) (by decide +kernel)⟩
set_option maxRecDepth 20000 in
theorem fl_RX6_22 : xw_fl RX6 22 6 7 := ⟨_, rfl, by decide, rfl, lw_g_in (by decide +kernel) (by decide +kernel)⟩
set_option maxRecDepth 20000 in
theorem fl_RX6_25 : xw_fl RX6 25 6 8 := ⟨_, rfl, by decide, rfl, lw_g_in (by decide +kernel) (by decide +kernel)⟩
set_option maxRecDepth 20000 in
theorem fl_RX6_28 : xw_fl RX6 28 6 0 := ⟨_, rfl, by decide, rfl, lw_g_in (by decide +kernel) (by decide +kernel)⟩
set_option maxRecDepth 20000 in
theorem fl_RX6_32 : xw_fl RX6 32 6 1 := ⟨_, rfl, by decide, rfl, lw_g_in (by decide +kernel) (by decide +kernel)⟩
set_option maxRecDepth 20000 in
theorem fl_RX6_39 : xw_fl RX6 39 6 2 := ⟨_, rfl, by decide, rfl, lw_g_in (by decide +kernel) (by decide +kernel)⟩
set_option maxRecDepth 20000 in
theorem pf_0_0 : xw_pf 0 0 := ⟨⟨_, rfl, rfl, by decide +kernel⟩, by decide, fun _ _ _ _ => ⟨rfl, by simp [xw_fs]⟩⟩
set_option maxRecDepth 20000 in
theorem pf_1_5 : xw_pf 1 5 := ⟨⟨_, rfl, rfl, by decide +kernel⟩, by decide, fun _ _ _ _ => ⟨rfl, by simp [xw_fs]⟩⟩
set_option maxRecDepth 20000 in
theorem pf_1_6 : xw_pf 1 6 := ⟨⟨_, rfl, rfl, by decide +kernel⟩, by decide, fun _ _ _ _ => ⟨rfl, by simp [xw_fs]⟩⟩
set_option maxRecDepth 20000 in
theorem pf_1_7 : xw_pf 1 7 := ⟨⟨_, rfl, rfl, by decide +kernel⟩, by decide, fun _ _ _ _ => ⟨rfl, by simp [xw_fs]⟩⟩
set_option maxRecDepth 20000 in
theorem pf_1_8 : xw_pf 1 8 := ⟨⟨_, rfl, rfl, by decide +kernel⟩, by decide, fun _ _ _ _ => ⟨rfl, by simp [xw_fs]⟩⟩
set_option maxRecDepth 20000 in
theorem pf_2_1 : xw_pf 2 1 := ⟨⟨_, rfl, rfl, by decide +kernel⟩, by decide, fun _ _ _ _ => ⟨rfl, by simp [xw_fs]⟩⟩
set_option maxRecDepth 20000 in
theorem pf_2_2 : xw_pf 2 2 := ⟨⟨_, rfl, rfl, by decide +kernel⟩, by decide, fun _ _ _ _ => ⟨rfl, by simp [xw_fs]⟩⟩
set_option maxRecDepth 20000 in
theorem pf_2_3 : xw_pf 2 3 := ⟨⟨_, rfl, rfl, by decide +kernel⟩, by decide, fun _ _ _ _ => ⟨rfl, by simp [xw_fs]⟩⟩
set_option maxRecDepth 20000 in
theorem pf_2_4 : xw_pf 2 4 := ⟨⟨_, rfl, rfl, by decide +kernel⟩, by decide, fun _ _ _ _ => ⟨rfl, by simp [xw_fs]⟩⟩
set_option maxRecDepth 20000 in
theorem pf_2_5 : xw_pf 2 5 := ⟨⟨_, rfl, rfl, by decide +kernel⟩, by decide, fun _ _ _ _ => ⟨rfl, by simp [xw_fs]⟩⟩
set_option maxRecDepth 20000 in
theorem pf_2_6 : xw_pf 2 6 := ⟨⟨_, rfl, rfl, by decide +kernel⟩, by decide, fun _ _ _ _ => ⟨rfl, by simp [xw_fs]⟩⟩
set_option maxRecDepth 20000 in
theorem pf_2_7 : xw_pf 2 7 := ⟨⟨_, rfl, rfl, by decide +kernel⟩, by decide, fun _ _ _ _ => ⟨rfl, by simp [xw_fs]⟩⟩
set_option maxRecDepth 20000 in
theorem pf_3_1 : xw_pf 3 1 := ⟨⟨_, rfl, rfl, by decide +kernel⟩, by decide, fun _ _ _ _ => ⟨rfl, by simp [xw_fs]⟩⟩
set_option maxRecDepth 20000 in
theorem pf_4_0 : xw_pf 4 0 := ⟨⟨_, rfl, rfl, by decide +kernel⟩, by decide, fun _ _ _ _ => ⟨rfl, by simp [xw_fs]⟩⟩
set_option maxRecDepth 20000 in
theorem pf_4_1 : xw_pf 4 1 := ⟨⟨_, rfl, rfl, by decide +kernel⟩, by decide, fun _ _ _ _ => ⟨rfl, by simp [xw_fs]⟩⟩
set_option maxRecDepth 20000 in
theorem pf_4_2 : xw_pf 4 2 := ⟨⟨_, rfl, rfl, by decide +kernel⟩, by decide, fun _ _ _ _ => ⟨rfl, by simp [xw_fs]⟩⟩
set_option maxRecDepth 20000 in
theorem pf_4_3 : xw_pf 4 3 := ⟨⟨_, rfl, rfl, by decide +kernel⟩, by decide, fun _ _ _ _ => ⟨rfl, by simp [xw_fs]⟩⟩
set_option maxRecDepth 20000 in
theorem pf_6_0 : xw_pf 6 0 := ⟨⟨_, rfl, rfl, by decide +kernel⟩, by decide, fun _ _ _ _ => ⟨rfl, by simp [xw_fs]⟩⟩
set_option maxRecDepth 20000 in
theorem pf_6_1 : xw_pf 6 1 := ⟨⟨_, rfl, rfl, by decide +kernel⟩, by decide, fun _ _ _ _ => ⟨rfl, by simp [xw_fs]⟩⟩
set_option maxRecDepth 20000 in
theorem pf_6_2 : xw_pf 6 2 := ⟨⟨_, rfl, rfl, by decide +kernel⟩, by decide, fun _ _ _ _ => ⟨rfl, by simp [xw_fs]⟩⟩
set_option maxRecDepth 20000 in
theorem kp_0_1 {k : Nat} (hk : xw_kd k = 0) : xw_kd (k + 1) = 3 := (show ∀ k, k < 358 → xw_kd k = 0 → xw_kd (k + 1) = 3 by decide +kernel) k (xw_lt hk (by decide)) hk
set_option maxRecDepth 20000 in
theorem kp_0_2 {k : Nat} (hk : xw_kd k = 0) : xw_kd (k + 3) = 3 := (show ∀ k, k < 358 → xw_kd k = 0 → xw_kd (k + 3) = 3 by decide +kernel) k (xw_lt hk (by decide)) hk
set_option maxRecDepth 20000 in
theorem kp_0_3 {k : Nat} (hk : xw_kd k = 0) : xw_kd (k + 5) = 3 := (show ∀ k, k < 358 → xw_kd k = 0 → xw_kd (k + 5) = 3 by decide +kernel) k (xw_lt hk (by decide)) hk
set_option maxRecDepth 20000 in
theorem kp_1_0 {k : Nat} (hk : xw_kd k = 1) : xw_kd (k + 1) = 8 := (show ∀ k, k < 358 → xw_kd k = 1 → xw_kd (k + 1) = 8 by decide +kernel) k (xw_lt hk (by decide)) hk
set_option maxRecDepth 20000 in
theorem kp_1_1 {k : Nat} (hk : xw_kd k = 1) : xw_kd (k + 2) = 9 := (show ∀ k, k < 358 → xw_kd k = 1 → xw_kd (k + 2) = 9 by decide +kernel) k (xw_lt hk (by decide)) hk
set_option maxRecDepth 20000 in
theorem kp_1_2 {k : Nat} (hk : xw_kd k = 1) : xw_kd (k + 33) = 0 := (show ∀ k, k < 358 → xw_kd k = 1 → xw_kd (k + 33) = 0 by decide +kernel) k (xw_lt hk (by decide)) hk
set_option maxRecDepth 20000 in
theorem kp_1_3 {k : Nat} (hk : xw_kd k = 1) : xw_kd (k + 160) = 2 := (show ∀ k, k < 358 → xw_kd k = 1 → xw_kd (k + 160) = 2 by decide +kernel) k (xw_lt hk (by decide)) hk
set_option maxRecDepth 20000 in
theorem kp_1_4 {k : Nat} (hk : xw_kd k = 1) : xw_kd (k + 3) = 3 := (show ∀ k, k < 358 → xw_kd k = 1 → xw_kd (k + 3) = 3 by decide +kernel) k (xw_lt hk (by decide)) hk
set_option maxRecDepth 20000 in
theorem kp_2_8 {k : Nat} (hk : xw_kd k = 2) : xw_kd (k + 1) = 10 := (show ∀ k, k < 358 → xw_kd k = 2 → xw_kd (k + 1) = 10 by decide +kernel) k (xw_lt hk (by decide)) hk
set_option maxRecDepth 20000 in
theorem kp_2_9 {k : Nat} (hk : xw_kd k = 2) : xw_kd (k + 14) = 4 := (show ∀ k, k < 358 → xw_kd k = 2 → xw_kd (k + 14) = 4 by decide +kernel) k (xw_lt hk (by decide)) hk
set_option maxRecDepth 20000 in
theorem kp_3_0 {k : Nat} (hk : xw_kd k = 3) : xw_kd (k + 1) = 7 := (show ∀ k, k < 358 → xw_kd k = 3 → xw_kd (k + 1) = 7 by decide +kernel) k (xw_lt hk (by decide)) hk
set_option maxRecDepth 20000 in
theorem kp_5_0 : xw_kd 0 = 1 := by decide +kernel
set_option maxRecDepth 20000 in
theorem kp_5_1 : xw_kd 175 = 1 := by decide +kernel
set_option maxRecDepth 20000 in
theorem kp_6_3 {k : Nat} (hk : xw_kd k = 6) : xw_kd (k + 1) = 7 := (show ∀ k, k < 358 → xw_kd k = 6 → xw_kd (k + 1) = 7 by decide +kernel) k (xw_lt hk (by decide)) hk
set_option maxRecDepth 20000 in
theorem kp_6_4 {k : Nat} (hk : xw_kd k = 6) : xw_kd (k + 2) = 11 := (show ∀ k, k < 358 → xw_kd k = 6 → xw_kd (k + 2) = 11 by decide +kernel) k (xw_lt hk (by decide)) hk
set_option maxRecDepth 20000 in
theorem kp_6_5 {k : Nat} (hk : xw_kd k = 6) : xw_kd (k + 3) = 11 := (show ∀ k, k < 358 → xw_kd k = 6 → xw_kd (k + 3) = 11 by decide +kernel) k (xw_lt hk (by decide)) hk
set_option maxRecDepth 20000 in
theorem kp_6_6 {k : Nat} (hk : xw_kd k = 6) : xw_kd (k + 4) = 11 := (show ∀ k, k < 358 → xw_kd k = 6 → xw_kd (k + 4) = 11 by decide +kernel) k (xw_lt hk (by decide)) hk
set_option maxRecDepth 20000 in
theorem kp_6_7 {k : Nat} (hk : xw_kd k = 6) : xw_kd (k + 5) = 12 := (show ∀ k, k < 358 → xw_kd k = 6 → xw_kd (k + 5) = 12 by decide +kernel) k (xw_lt hk (by decide)) hk
set_option maxRecDepth 20000 in
theorem kp_6_8 {k : Nat} (hk : xw_kd k = 6) : xw_kd (k + 6) = 12 := (show ∀ k, k < 358 → xw_kd k = 6 → xw_kd (k + 6) = 12 by decide +kernel) k (xw_lt hk (by decide)) hk
set_option maxRecDepth 20000 in
theorem kl_8 {k : Nat} {i : Int32} (hk : xw_kd k = 8) (hi : xo_ix i 4 = true) : xw_kd (xw_el 8 k (Int32.toNatClampNeg i)) = 0 := xw_kel (κ := 8) rfl hk (xo_ix_lt hi)
set_option maxRecDepth 20000 in
theorem kl_9 {k : Nat} {i : Int32} (hk : xw_kd k = 9) (hi : xo_ix i 8 = true) : xw_kd (xw_el 9 k (Int32.toNatClampNeg i)) = 2 := xw_kel (κ := 9) rfl hk (xo_ix_lt hi)
set_option maxRecDepth 20000 in
theorem kl_10 {k : Nat} {i : Int32} (hk : xw_kd k = 10) (hi : xo_ix i 12 = true) : xw_kd (xw_el 10 k (Int32.toNatClampNeg i)) = 4 := xw_kel (κ := 10) rfl hk (xo_ix_lt hi)
set_option maxRecDepth 20000 in
theorem cv_RX0_29 : xw_cv RX0 29 3 yX3_becomeLike cX3_becomeLike 3 none 1 := ⟨by decide +kernel, ⟨_, rfl, rfl⟩, by decide +kernel, by decide +kernel, by decide +kernel⟩
set_option maxRecDepth 20000 in
theorem cv_RX1_55 : xw_cv RX1 55 3 yX3_becomeLike cX3_becomeLike 3 none 1 := ⟨by decide +kernel, ⟨_, rfl, rfl⟩, by decide +kernel, by decide +kernel, by decide +kernel⟩
set_option maxRecDepth 20000 in
theorem cv_RX1_59 : xw_cv RX1 59 1 yX1_channelAt cX1_channelAt 3 (some (.object "WaterFibers$Channel")) 1 := ⟨by decide +kernel, ⟨_, rfl, rfl⟩, by decide +kernel, by decide +kernel, by decide +kernel⟩
set_option maxRecDepth 20000 in
theorem cv_RX1_63 : xw_cv RX1 63 0 yX0_becomeLike cX0_becomeLike 2 none 1 := ⟨by decide +kernel, ⟨_, rfl, rfl⟩, by decide +kernel, by decide +kernel, by decide +kernel⟩
set_option maxRecDepth 20000 in
theorem cv_RX1_66 : xw_cv RX1 66 1 yX1_fiberAt cX1_fiberAt 3 (some (.object "WaterFibers$Fiber")) 1 := ⟨by decide +kernel, ⟨_, rfl, rfl⟩, by decide +kernel, by decide +kernel, by decide +kernel⟩
set_option maxRecDepth 20000 in
theorem cv_RX1_70 : xw_cv RX1 70 2 yX2_becomeLike cX2_becomeLike 3 none 1 := ⟨by decide +kernel, ⟨_, rfl, rfl⟩, by decide +kernel, by decide +kernel, by decide +kernel⟩
set_option maxRecDepth 20000 in
theorem cv_RX1_76 : xw_cv RX1 76 1 yX1_countDone cX1_countDone 3 (some .int) 0 := ⟨by decide +kernel, ⟨_, rfl, rfl⟩, by decide +kernel, by decide +kernel, by decide +kernel⟩
set_option maxRecDepth 20000 in
theorem cv_RX1_80 : xw_cv RX1 80 1 yX1_wakeSleepers cX1_wakeSleepers 3 none 0 := ⟨by decide +kernel, ⟨_, rfl, rfl⟩, by decide +kernel, by decide +kernel, by decide +kernel⟩
set_option maxRecDepth 20000 in
theorem cv_RX1_86 : xw_cv RX1 86 3 yX3_takeFirst cX3_takeFirst 3 (some .int) 0 := ⟨by decide +kernel, ⟨_, rfl, rfl⟩, by decide +kernel, by decide +kernel, by decide +kernel⟩
set_option maxRecDepth 20000 in
theorem cv_RX1_92 : xw_cv RX1 92 2 yX2_hasStepsLeft cX2_hasStepsLeft 1 (some .boolean) 0 := ⟨by decide +kernel, ⟨_, rfl, rfl⟩, by decide +kernel, by decide +kernel, by decide +kernel⟩
set_option maxRecDepth 20000 in
theorem cv_RX1_96 : xw_cv RX1 96 1 yX1_doStep cX1_doStep 3 (some .boolean) 1 := ⟨by decide +kernel, ⟨_, rfl, rfl⟩, by decide +kernel, by decide +kernel, by decide +kernel⟩
set_option maxRecDepth 20000 in
theorem cv_RX1_100 : xw_cv RX1 100 1 yX1_endTurn cX1_endTurn 4 none 1 := ⟨by decide +kernel, ⟨_, rfl, rfl⟩, by decide +kernel, by decide +kernel, by decide +kernel⟩
set_option maxRecDepth 20000 in
theorem cv_RX1_106 : xw_cv RX1 106 3 yX3_addLast cX3_addLast 2 none 1 := ⟨by decide +kernel, ⟨_, rfl, rfl⟩, by decide +kernel, by decide +kernel, by decide +kernel⟩
set_option maxRecDepth 20000 in
theorem cv_RX1_112 : xw_cv RX1 112 1 yX1_makeReady cX1_makeReady 2 none 1 := ⟨by decide +kernel, ⟨_, rfl, rfl⟩, by decide +kernel, by decide +kernel, by decide +kernel⟩
set_option maxRecDepth 20000 in
theorem cv_RX1_118 : xw_cv RX1 118 2 yX2_stepAt cX2_stepAt 3 (some (.object "WaterFibers$Step")) 1 := ⟨by decide +kernel, ⟨_, rfl, rfl⟩, by decide +kernel, by decide +kernel, by decide +kernel⟩
set_option maxRecDepth 20000 in
theorem cv_RX1_133 : xw_cv RX1 133 1 yX1_send cX1_send 5 none 3 := ⟨by decide +kernel, ⟨_, rfl, rfl⟩, by decide +kernel, by decide +kernel, by decide +kernel⟩
set_option maxRecDepth 20000 in
theorem cv_RX1_140 : xw_cv RX1 140 1 yX1_take cX1_take 4 none 2 := ⟨by decide +kernel, ⟨_, rfl, rfl⟩, by decide +kernel, by decide +kernel, by decide +kernel⟩
set_option maxRecDepth 20000 in
theorem cv_RX1_144 : xw_cv RX1 144 2 yX2_moveOn cX2_moveOn 1 none 0 := ⟨by decide +kernel, ⟨_, rfl, rfl⟩, by decide +kernel, by decide +kernel, by decide +kernel⟩
set_option maxRecDepth 20000 in
theorem cv_RX1_147 : xw_cv RX1 147 1 yX1_waitFor cX1_waitFor 3 none 2 := ⟨by decide +kernel, ⟨_, rfl, rfl⟩, by decide +kernel, by decide +kernel, by decide +kernel⟩
set_option maxRecDepth 20000 in
theorem cv_RX1_150 : xw_cv RX1 150 2 yX2_goBack cX2_goBack 2 none 1 := ⟨by decide +kernel, ⟨_, rfl, rfl⟩, by decide +kernel, by decide +kernel, by decide +kernel⟩
set_option maxRecDepth 20000 in
theorem cv_RX1_154 : xw_cv RX1 154 0 yX0_hasRoom cX0_hasRoom 1 (some .boolean) 0 := ⟨by decide +kernel, ⟨_, rfl, rfl⟩, by decide +kernel, by decide +kernel, by decide +kernel⟩
set_option maxRecDepth 20000 in
theorem cv_RX1_163 : xw_cv RX1 163 1 yX1_wakeFirst cX1_wakeFirst 3 none 1 := ⟨by decide +kernel, ⟨_, rfl, rfl⟩, by decide +kernel, by decide +kernel, by decide +kernel⟩
set_option maxRecDepth 20000 in
theorem cv_RX2_47 : xw_cv RX2 47 2 yX2_moveOn cX2_moveOn 1 none 0 := ⟨by decide +kernel, ⟨_, rfl, rfl⟩, by decide +kernel, by decide +kernel, by decide +kernel⟩
set_option maxRecDepth 20000 in
theorem cv_RX2_59 : xw_cv RX2 59 2 yX2_stepAt cX2_stepAt 3 (some (.object "WaterFibers$Step")) 1 := ⟨by decide +kernel, ⟨_, rfl, rfl⟩, by decide +kernel, by decide +kernel, by decide +kernel⟩
set_option maxRecDepth 20000 in
theorem cv_RX2_63 : xw_cv RX2 63 4 yX4_becomeLike cX4_becomeLike 2 none 1 := ⟨by decide +kernel, ⟨_, rfl, rfl⟩, by decide +kernel, by decide +kernel, by decide +kernel⟩
set_option maxRecDepth 20000 in
theorem cv_RX3_19 : xw_cv RX3 19 3 yX3_look cX3_look 2 (some .int) 1 := ⟨by decide +kernel, ⟨_, rfl, rfl⟩, by decide +kernel, by decide +kernel, by decide +kernel⟩
set_option maxRecDepth 20000 in
theorem cv_RX5_59 : xw_cv RX5 59 1 yX1_fiberAt cX1_fiberAt 3 (some (.object "WaterFibers$Fiber")) 1 := ⟨by decide +kernel, ⟨_, rfl, rfl⟩, by decide +kernel, by decide +kernel, by decide +kernel⟩
set_option maxRecDepth 20000 in
theorem cv_RX5_90 : xw_cv RX5 90 5 yX5_isValue cX5_isValue 2 (some .boolean) 1 := ⟨by decide +kernel, ⟨_, rfl, rfl⟩, by decide +kernel, by decide +kernel, by decide +kernel⟩
set_option maxRecDepth 20000 in
theorem cv_RX5_127 : xw_cv RX5 127 1 yX1_letTurnGoBy cX1_letTurnGoBy 4 none 0 := ⟨by decide +kernel, ⟨_, rfl, rfl⟩, by decide +kernel, by decide +kernel, by decide +kernel⟩
set_option maxRecDepth 20000 in
theorem cv_RX5_133 : xw_cv RX5 133 1 yX1_countDone cX1_countDone 3 (some .int) 0 := ⟨by decide +kernel, ⟨_, rfl, rfl⟩, by decide +kernel, by decide +kernel, by decide +kernel⟩
set_option maxRecDepth 20000 in
theorem cv_RX5_140 : xw_cv RX5 140 3 yX3_look cX3_look 2 (some .int) 1 := ⟨by decide +kernel, ⟨_, rfl, rfl⟩, by decide +kernel, by decide +kernel, by decide +kernel⟩
set_option maxRecDepth 20000 in
theorem cv_RX5_144 : xw_cv RX5 144 1 yX1_hasStopped cX1_hasStopped 3 (some .boolean) 0 := ⟨by decide +kernel, ⟨_, rfl, rfl⟩, by decide +kernel, by decide +kernel, by decide +kernel⟩
set_option maxRecDepth 20000 in
theorem cv_RX5_147 : xw_cv RX5 147 1 yX1_allAreDone cX1_allAreDone 1 (some .boolean) 0 := ⟨by decide +kernel, ⟨_, rfl, rfl⟩, by decide +kernel, by decide +kernel, by decide +kernel⟩
set_option maxRecDepth 20000 in
theorem cv_RX5_173 : xw_cv RX5 173 1 yX1_becomeLike cX1_becomeLike 3 none 1 := ⟨by decide +kernel, ⟨_, rfl, rfl⟩, by decide +kernel, by decide +kernel, by decide +kernel⟩
set_option maxRecDepth 20000 in
theorem cv_RX5_242 : xw_cv RX5 242 5 yX5_isChannel cX5_isChannel 2 (some .boolean) 1 := ⟨by decide +kernel, ⟨_, rfl, rfl⟩, by decide +kernel, by decide +kernel, by decide +kernel⟩
set_option maxRecDepth 20000 in
theorem cv_RX5_247 : xw_cv RX5 247 5 yX5_isFiber cX5_isFiber 2 (some .boolean) 1 := ⟨by decide +kernel, ⟨_, rfl, rfl⟩, by decide +kernel, by decide +kernel, by decide +kernel⟩
set_option maxRecDepth 20000 in
theorem cv_RX6_48 : xw_cv RX6 48 6 yX6_waits cX6_waits 4 (some .boolean) 3 := ⟨by decide +kernel, ⟨_, rfl, rfl⟩, by decide +kernel, by decide +kernel, by decide +kernel⟩
set_option maxRecDepth 20000 in
theorem cv_RX6_51 : xw_cv RX6 51 6 yX6_ready cX6_ready 2 none 1 := ⟨by decide +kernel, ⟨_, rfl, rfl⟩, by decide +kernel, by decide +kernel, by decide +kernel⟩
set_option maxRecDepth 20000 in
theorem cv_RX6_55 : xw_cv RX6 55 6 yX6_wake cX6_wake 5 none 2 := ⟨by decide +kernel, ⟨_, rfl, rfl⟩, by decide +kernel, by decide +kernel, by decide +kernel⟩
set_option maxRecDepth 20000 in
theorem cv_RX6_59 : xw_cv RX6 59 6 yX6_waitIn cX6_waitIn 3 none 2 := ⟨by decide +kernel, ⟨_, rfl, rfl⟩, by decide +kernel, by decide +kernel, by decide +kernel⟩
set_option maxRecDepth 20000 in
theorem cv_RX6_62 : xw_cv RX6 62 6 yX6_send cX6_send 3 none 2 := ⟨by decide +kernel, ⟨_, rfl, rfl⟩, by decide +kernel, by decide +kernel, by decide +kernel⟩
set_option maxRecDepth 20000 in
theorem cv_RX6_65 : xw_cv RX6 65 6 yX6_take cX6_take 4 (some .int) 1 := ⟨by decide +kernel, ⟨_, rfl, rfl⟩, by decide +kernel, by decide +kernel, by decide +kernel⟩
set_option maxRecDepth 20000 in
theorem cv_RX6_69 : xw_cv RX6 69 6 yX6_isDone cX6_isDone 4 (some .boolean) 1 := ⟨by decide +kernel, ⟨_, rfl, rfl⟩, by decide +kernel, by decide +kernel, by decide +kernel⟩
set_option maxRecDepth 20000 in
theorem cv_RX6_73 : xw_cv RX6 73 6 yX6_done cX6_done 3 none 1 := ⟨by decide +kernel, ⟨_, rfl, rfl⟩, by decide +kernel, by decide +kernel, by decide +kernel⟩
set_option maxRecDepth 20000 in
theorem cv_RX6_76 : xw_cv RX6 76 6 yX6_go cX6_go 4 none 1 := ⟨by decide +kernel, ⟨_, rfl, rfl⟩, by decide +kernel, by decide +kernel, by decide +kernel⟩
set_option maxRecDepth 20000 in
theorem cv_RX6_79 : xw_cv RX6 79 6 yX6_no cX6_no 2 (some .int) 1 := ⟨by decide +kernel, ⟨_, rfl, rfl⟩, by decide +kernel, by decide +kernel, by decide +kernel⟩
set_option maxRecDepth 20000 in
theorem cv_RX6_82 : xw_cv RX6 82 6 yX6_isChannel cX6_isChannel 2 (some .boolean) 1 := ⟨by decide +kernel, ⟨_, rfl, rfl⟩, by decide +kernel, by decide +kernel, by decide +kernel⟩
set_option maxRecDepth 20000 in
theorem cv_RX6_85 : xw_cv RX6 85 6 yX6_isFiber cX6_isFiber 2 (some .boolean) 1 := ⟨by decide +kernel, ⟨_, rfl, rfl⟩, by decide +kernel, by decide +kernel, by decide +kernel⟩
set_option maxRecDepth 20000 in
theorem cv_RX6_88 : xw_cv RX6 88 6 yX6_isStep cX6_isStep 5 (some .boolean) 4 := ⟨by decide +kernel, ⟨_, rfl, rfl⟩, by decide +kernel, by decide +kernel, by decide +kernel⟩
set_option maxRecDepth 20000 in
theorem cv_RX6_92 : xw_cv RX6 92 6 yX6_turnOn cX6_turnOn 2 none 0 := ⟨by decide +kernel, ⟨_, rfl, rfl⟩, by decide +kernel, by decide +kernel, by decide +kernel⟩
set_option maxRecDepth 20000 in
theorem cv_RX6_95 : xw_cv RX6 95 6 yX6_ok cX6_ok 2 (some .int) 1 := ⟨by decide +kernel, ⟨_, rfl, rfl⟩, by decide +kernel, by decide +kernel, by decide +kernel⟩
set_option maxRecDepth 20000 in
theorem cv_RX6_98 : xw_cv RX6 98 6 yX6_inState cX6_inState 4 (some .int) 1 := ⟨by decide +kernel, ⟨_, rfl, rfl⟩, by decide +kernel, by decide +kernel, by decide +kernel⟩
set_option maxRecDepth 20000 in
theorem cv_RX6_101 : xw_cv RX6 101 6 yX6_first cX6_first 1 (some .int) 0 := ⟨by decide +kernel, ⟨_, rfl, rfl⟩, by decide +kernel, by decide +kernel, by decide +kernel⟩
set_option maxRecDepth 20000 in
theorem cv_RX6_105 : xw_cv RX6 105 6 yX6_stuck cX6_stuck 1 (some .boolean) 0 := ⟨by decide +kernel, ⟨_, rfl, rfl⟩, by decide +kernel, by decide +kernel, by decide +kernel⟩
set_option maxRecDepth 20000 in
theorem cv_RX6_109 : xw_cv RX6 109 6 yX6_heldIn cX6_heldIn 2 (some .int) 1 := ⟨by decide +kernel, ⟨_, rfl, rfl⟩, by decide +kernel, by decide +kernel, by decide +kernel⟩
set_option maxRecDepth 20000 in
theorem cv_RX6_112 : xw_cv RX6 112 6 yX6_waiting cX6_waiting 5 (some .int) 2 := ⟨by decide +kernel, ⟨_, rfl, rfl⟩, by decide +kernel, by decide +kernel, by decide +kernel⟩
set_option maxRecDepth 20000 in
theorem cv_RX6_116 : xw_cv RX6 116 6 yX6_ofFiber cX6_ofFiber 3 (some .int) 2 := ⟨by decide +kernel, ⟨_, rfl, rfl⟩, by decide +kernel, by decide +kernel, by decide +kernel⟩
set_option maxRecDepth 20000 in
theorem cv_RX6_119 : xw_cv RX6 119 6 yX6_inLine cX6_inLine 3 (some .int) 1 := ⟨by decide +kernel, ⟨_, rfl, rfl⟩, by decide +kernel, by decide +kernel, by decide +kernel⟩
set_option maxRecDepth 20000 in
theorem cv_RX6_122 : xw_cv RX6 122 6 yX6_keep cX6_keep 1 none 0 := ⟨by decide +kernel, ⟨_, rfl, rfl⟩, by decide +kernel, by decide +kernel, by decide +kernel⟩
set_option maxRecDepth 20000 in
theorem cv_RX6_125 : xw_cv RX6 125 6 yX6_bringBack cX6_bringBack 1 none 0 := ⟨by decide +kernel, ⟨_, rfl, rfl⟩, by decide +kernel, by decide +kernel, by decide +kernel⟩
set_option maxRecDepth 20000 in
theorem cv_RX6_128 : xw_cv RX6 128 6 yX6_untilDone cX6_untilDone 3 (some .int) 1 := ⟨by decide +kernel, ⟨_, rfl, rfl⟩, by decide +kernel, by decide +kernel, by decide +kernel⟩
set_option maxRecDepth 20000 in
theorem cv_RX6_131 : xw_cv RX6 131 6 yX6_untilStuck cX6_untilStuck 2 (some .int) 0 := ⟨by decide +kernel, ⟨_, rfl, rfl⟩, by decide +kernel, by decide +kernel, by decide +kernel⟩
set_option maxRecDepth 20000 in
theorem cv_RX6_134 : xw_cv RX6 134 6 yX6_roomFor cX6_roomFor 5 (some .int) 1 := ⟨by decide +kernel, ⟨_, rfl, rfl⟩, by decide +kernel, by decide +kernel, by decide +kernel⟩
set_option maxRecDepth 20000 in
theorem cs_RX6_35 : xw_cs RX6 35 yX6_isFrom cX6_isFrom 3 (some .boolean) 3 := ⟨by decide +kernel, by decide +kernel, by decide +kernel, by decide +kernel, by decide +kernel⟩
set_option maxRecDepth 20000 in
theorem sy_RX6_42 : xw_sy RX6 42 := ⟨lw_g_in (by decide +kernel) (by decide +kernel), lw_g_in (by decide +kernel) (by decide +kernel), lw_g_in (by decide +kernel) (by decide +kernel), lw_g_in (by decide +kernel) (by decide +kernel)⟩
end
section
section XT
variable {p : Program} {l : Launch} {e : Env} {R : Room} {s : State} {m : MethodId} {args : Array Value} {below : List Frame} {meth : Method} {c : Code} {G : xw_G} {nL cells slots : Nat} {Q : State → Prop}
variable {cc : ByteArray} {own : String} {pc : Nat} {h : xw_M} {lv : List (Option Value)} {st : List Value}
/-! a method that throws: E is the exception's place in xw_exn, plus one; 0: it returns -/
def xt_X (G : xw_G) (h' : xw_M) (E : Nat) : String → State → State → Prop := fun X s t => (1 ≤ E ∧ xw_exn[E - 1]? = some X) ∧ xw_P G h' t.heap ∧ va_F (xg_A G) s t
def xt_M (l : Launch) (G : xw_G) (y : MethodName) (cc : ByteArray) (n : Nat) (ret : Option FieldType) (fr lo : Nat) (av : List Value) (h h' : xw_M) (E : Nat) : Prop :=
  vx_Met l y (.code y cc n ret :: lw_g) { frames := fr, cells := 1, slots := 6, locals := lo } (va_Pc av (xw_S G h)) (fun _ _ _ _ => False) (xt_X G h' E) 1 6 (xg_A G)
abbrev xt_Z (G : xw_G) (below : List Frame) (args : Array Value) (s : State) (h' : xw_M) (E : Nat) : State → Prop := vx_MQ below (fun _ _ _ _ => False) (xt_X G h' E) args s 1 6 (xg_A G)
theorem xt_of {ret : Option FieldType} {y : MethodName} {n fr lo E : Nat} {av : List Value} {h' : xw_M} (hy : plainName y.cls = true) (hcat : av.all (fun v => v.category == 1) = true) (hlen : (lg_sl av).length ≤ n)
    (body : ∀ (p : Program) (e : Env) (s : State) (m : MethodId) (args : Array Value) (below : List Frame) (meth : Method) (c : Code), xj_C p s m args meth c G y.cls cc n → meth.sig.returnType = ret → (∀ x ∈ c.exceptionTable.toList, False) →
      xj_X p l e { frames := fr, cells := 1, slots := 6, locals := lo } s m args below meth c G n 0 0 (xt_Z G below args s h' E) h (xc_lv av n) 0 []) : xt_M l G y cc n ret fr lo av h h' E := by
  refine vx_ofW (cc := cc) (maxL := n) (ret := ret) hy rfl ?_
  intro p e s m args below meth c s₁ B hml htab hv
  obtain ⟨rfl, hP, hK, hG, hX⟩ := hv
  have hts : ∀ w ∈ lw_g, w.before av.toArray s = true := fun w hw => atoms_spec (ws := .code y cc n ret :: lw_g) B.pre w (List.mem_cons_of_mem _ hw)
  have hl := lv_entry av (n := n) hlen
  rw [lg_entry_eq]
  exact body p e s m av.toArray below meth c ⟨B.exec, B.bytes, hml, findClass_of_methodNamed B.named, hts, hK, hG, hX, B.notSynchronized⟩ B.returns htab s.heap [] _ hP va_S.rf ⟨hl.1, hl.2.1, fun i v hi => hl.2.2 (i, v) (by have h1 := xc_entry av 0 i v hcat (xc_lv_at hi); rwa [Nat.zero_add] at h1)⟩
def xw_sup : List String := ["java/lang/RuntimeException", "java/lang/Exception"]
def xw_th (own : String) (ik is ic : Nat) (cls text : String) : Prop :=
  Bundle.fit cls = true ∧ (∀ n ∈ xw_sup, Bundle.fit n = true) ∧ Cond.classLink own ik cls ∈ lw_g ∧ Cond.initialized cls ∈ lw_g ∧ (own, is, text) ∈ xw_str ∧ ∀ w ∈ vx_atS own ic cls xw_sup, w ∈ lw_g
theorem xw_kept {H H1 : Heap} (hP : xw_P G h H) (hk : ∀ q : Nat, q < H.size → H1[q]? = H[q]?) : xw_P G h H1 := va_P.kept hP (fun k q hq => hk q.1 (hP k q hq).lt)
theorem xr_throw (C : xj_C p s m args meth c G own cc nL) (hl : l.stackTraces = false) (htab : ∀ x ∈ c.exceptionTable.toList, False) {ik is ic E : Nat} {cls text : String} (T : xw_th own ik is ic cls text) {α : Type} {dv : α} {q : xw_M × α × Nat} (hR : some (h, dv, E) = some q) (hE : 1 ≤ E ∧ xw_exn[E - 1]? = some cls)
    (d0 : decode cc pc = .ok (.new ik, 3)) (d3 : decode cc (pc + 3) = .ok (.dup, 1)) (d4 : decode cc (pc + 4) = .ok (.ldc is, 2)) (d6 : decode cc (pc + 6) = .ok (.invokespecial ic, 3)) (d9 : decode cc (pc + 9) = .ok (.athrow, 1))
    (hfr : 5 < R.frames) (hlo : (st.map fun v => v.category).sum + 82 ≤ R.locals) (hc : cells + 1 ≤ R.cells) (hs : slots + 6 ≤ R.slots) (hc1 : cells + 1 ≤ 1) (hs1 : slots + 6 ≤ 6) : xj_X p l e R s m args below meth c G nL cells slots (xt_Z G below args s q.1 q.2.2) h lv pc st := by
  intro H locs ls hP hS hL
  cases hR
  obtain ⟨t1, t2, t3, t4, t5, t6⟩ := T
  have hX := C.2.2.2.2.2.2.2.1
  obtain ⟨sa, hsa⟩ := hX.1 _ t5
  have hts := C.2.2.2.2.1
  have g1 : ∀ w : Cond, w ∈ lw_g → vx_ot w = true := fun w hw => by unfold vx_ot; rw [(List.mem_filter.mp hw).2, Bool.or_true]
  exact vx_throwS (names := xw_sup) (A := xg_A G) C.1 C.2.1 hl C.2.2.2.1 t1 t2 (hts _ t3) (hts _ t4) hsa (fun w hw => hts _ (t6 w hw))
    (fun w hw => by
      rcases List.mem_cons.mp hw with rfl | hw
      · exact g1 _ t3
      · rcases List.mem_cons.mp hw with rfl | hw
        · exact g1 _ t4
        · exact g1 _ (t6 w hw)) hX.2.2.2.1 hX.2.2.2.2 hS (hL.1.trans C.2.2.1.symm) d0 d3 d4 d6 d9 (fun x hx => (htab x hx).elim) hfr hlo hc hs C.2.2.2.2.2.2.2.2
    (fun t hv hz hk => ⟨hE, xw_kept hP hk, Nat.le_trans hS.1 hz, fun q h1 h2 => (hk q (Nat.lt_of_lt_of_le h1 hS.1)).trans (hS.2.1 q h1 h2)⟩) hS.2.2 hc1 hs1
theorem xr_iretR (C : xj_C p s m args meth c G own cc nL) {v : Int32} (hr : meth.sig.returnType = (some .int)) (d : decode cc pc = .ok (.ireturn, 1)) {q : xw_M × Int32 × Nat} (hR : some (h, v, 0) = some q) : xj_X p l e R s m args below meth c G nL cells slots (MQ below (xw_Q G (some (.int q.2.1)) q.1) args s cells slots (xg_A G)) h lv pc [.int v] := by
  cases hR
  exact xr_iret (q := (h, v)) C hr d rfl
theorem xr_zretR (C : xj_C p s m args meth c G own cc nL) {v : Int32} (hr : meth.sig.returnType = (some .boolean)) (hv : v = 0 ∨ v = 1) (d : decode cc pc = .ok (.ireturn, 1)) {q : xw_M × Int32 × Nat} (hR : some (h, v, 0) = some q) : xj_X p l e R s m args below meth c G nL cells slots (MQ below (xw_Q G (some (.int q.2.1)) q.1) args s cells slots (xg_A G)) h lv pc [.int v] := by
  cases hR
  exact xr_zret (q := (h, v)) C hr hv d rfl
theorem xr_lretR (C : xj_C p s m args meth c G own cc nL) {v : Int64} (hr : meth.sig.returnType = (some .long)) (d : decode cc pc = .ok (.lreturn, 1)) {q : xw_M × Int64 × Nat} (hR : some (h, v, 0) = some q) : xj_X p l e R s m args below meth c G nL cells slots (MQ below (xw_Q G (some (.long q.2.1)) q.1) args s cells slots (xg_A G)) h lv pc [.long v] := by
  cases hR
  exact xr_lret (q := (h, v)) C hr d rfl
theorem xr_vretR (C : xj_C p s m args meth c G own cc nL) (hr : meth.sig.returnType = none) (d : decode cc pc = .ok (.return_, 1)) {q : xw_M × Unit × Nat} (hR : some (h, (), 0) = some q) : xj_X p l e R s m args below meth c G nL cells slots (MQ below (xw_Q G none q.1) args s cells slots (xg_A G)) h lv pc [] := by
  cases hR
  exact xr_vret (q := (h, ())) C hr d rfl
theorem xt_goV {κ k n na idx fr lo E : Nat} {y : MethodName} {b : ByteArray} {ret : Option FieldType} {As : List Value} {h' : xw_M} (C : xj_C p s m args meth c G own cc nL) (htab : ∀ x ∈ c.exceptionTable.toList, False) (hc : xw_cv own idx κ y b n ret na) (hk : xw_kd k = κ) (hM : xt_M l G y b n ret fr lo (.ref (xg_ad G k) :: As) h h' E) (hn : As.length = na)
    (hR : fr + 1 ≤ R.frames ∧ 8 + (n + 11) + lo ≤ R.locals) (hst : (st.map fun v => v.category).sum ≤ 8) (hcs : cells + 1 ≤ R.cells ∧ slots + 6 ≤ R.slots) (hc1 : cells + 1 ≤ 1) (hs1 : slots + 6 ≤ 6) (d : decode cc pc = .ok (.invokevirtual idx, 3)) :
    xj_X p l e R s m args below meth c G nL cells slots (xt_Z G below args s h' E) h lv pc (As.reverse ++ .ref (xg_ad G k) :: st) := by
  intro H locs ls hP hS hL
  obtain ⟨hw, ⟨r, h1, h2⟩, h3⟩ := id hc
  obtain ⟨-, -, -, g4⟩ := xw_cl κ r h1
  have hl : k < xg_N G := xj_ltN C hk (by omega)
  have he : (xw_ws G h)[k]? = some (xg_ad G k, .inr (κ, xw_fs (xg_ad G) κ k (h k))) := by rw [xw_get hl, xw_ce, hk, xw_ct_lo g4]
  have hrv := va_recv C.2.2.2.2.2.1 hP h1 he
  rw [h2] at hrv
  have hrun := vx_runV (g := F0 m pc ls (As.reverse ++ .ref (xg_ad G k) :: st)) (rest := st) (p := p) (e := e) (R := R) (below := below) (meth := meth) (locs := locs) (cells := cells) (slots := slots) ⟨C.1, C.2.1, C.2.2.1, C.2.2.2.1, C.2.2.2.2.1⟩ hM (cwV na C.2.2.2.2.1 (xw_goodV hc) rfl rfl rfl ⟨rfl, h3⟩ hR) ⟨xw_blind, hrv, fun U hU hW => ⟨rfl, xj_S C hP hS hU hW⟩⟩ rfl hn hL.1 rfl (lv_room hst) d hcs
  intro T hT X
  rcases hrun T hT X with ⟨v, st₀, t, T', L, h0, X', hLf, e1, e2, hF, stp⟩ | ⟨q9, st₀, t, T', L, Ex, ce, h0, X', hLf, e1, e2, ⟨hE, hP', hF⟩, hce, hcv, hcl, stp⟩
  · exact hF.elim
  · obtain ⟨k1, k2, k3⟩ := vx_keep h0 e1 hS (fun _ _ z => z) (fun _ z => z) hLf hF
    have hout := vx_out (p := p) (l := l) (e := e) (R := R) (m := m) (args := args) (below := below) (meth := meth) (c := c) (pc := pc) (ls := ls) (rest := st) (s := s) (H := T'.heap) (locs := locs ++ L) (cells := cells + 1) (slots := slots + 6) (Qc := fun _ _ _ _ => False) (XC := xt_X G h' E) (mc := 1) (ms := 6) (free := xg_A G) (E := Ex) (ce := ce) (q := q9) (fun x hx => (htab x hx).elim) C.2.2.2.2.2.2.2.2 (by rw [e1]; exact hce) hcv hcl (fun t9 ht9 hv9 => ⟨hE, by rw [ht9, e1]; exact hP', k3.F ht9⟩) k3.2.2 hc1 hs1
    obtain ⟨t2, a1, b1⟩ := hout T' rfl X'
    exact ⟨t2, stp.trans a1, b1⟩
theorem xo_no {α : Type} {h : xw_M} {v : α} {E : Nat} {q : xw_M × α × Nat} (hR : some (h, v, E) = some q) : q.2.2 = E := by cases hR; rfl
/-- the answer of a method that may throw, in its caller: it goes on, or the throw goes on -/
def xo_th {α β : Type} (d : β) (r : xw_M × α × Nat) (A : Option (xw_M × β × Nat)) : Option (xw_M × β × Nat) := if r.2.2 = 0 then A else some (r.1, d, r.2.2)
theorem xo_th0 {α β : Type} {d : β} {r : xw_M × α × Nat} {A : Option (xw_M × β × Nat)} {q : xw_M × β × Nat} (hq : q.2.2 = 0) (hR : xo_th d r A = some q) : r.2.2 = 0 ∧ A = some q := by
  unfold xo_th at hR
  by_cases hz : r.2.2 = 0
  · exact ⟨hz, xo_t hR hz⟩
  · rw [if_neg hz] at hR
    cases hR
    exact absurd hq hz
theorem xr_callRi (C : xj_C p s m args meth c G own cc nL) {κ k n na idx fr lo : Nat} {y : MethodName} {b : ByteArray} {ret : Option FieldType} {stk : List Value} (As : List Value) {o : Option (xw_M × Int32 × Nat)} {β : Type} {dv : β} {F : xw_M × Int32 × Nat → Option (xw_M × β × Nat)} {q : xw_M × β × Nat} (hq : q.2.2 = 0) (hc : xw_cv own idx κ y b n ret na) (hk : xw_kd k = κ) (hM : ∀ r, o = some r → r.2.2 = 0 → xc_M l G y b n ret fr lo (.ref (xg_ad G k) :: As) h r.1 (some (.int r.2.1))) (hn : As.length = na) (hR9 : fr + 1 ≤ R.frames ∧ 8 + (n + 11) + lo ≤ R.locals) (hst : (st.map fun v => v.category).sum ≤ 8) (hcs : cells ≤ R.cells ∧ slots ≤ R.slots) (hs : stk = As.reverse ++ .ref (xg_ad G k) :: st) (d : decode cc pc = .ok (.invokevirtual idx, 3)) (hR : (o.bind fun r => xo_th dv r (F r)) = some q) (K : ∀ r, o = some r → F r = some q → xj_X p l e R s m args below meth c G nL cells slots Q r.1 lv (pc + 3) (.int r.2.1 :: st)) : xj_X p l e R s m args below meth c G nL cells slots Q h lv pc stk := by
  obtain ⟨r, h1, h2⟩ := xo_b hR
  obtain ⟨h3, h4⟩ := xo_th0 hq h2
  rw [hs]
  exact xr_goV C hc hk (hM r h1 h3) hn hR9 hst hcs d (K r h1 h4)
theorem xr_callTi (C : xj_C p s m args meth c G own cc nL) (htab : ∀ x ∈ c.exceptionTable.toList, False) {κ k n na idx fr lo : Nat} {y : MethodName} {b : ByteArray} {ret : Option FieldType} {stk : List Value} (As : List Value) {o : Option (xw_M × Int32 × Nat)} {β : Type} {dv : β} {F : xw_M × Int32 × Nat → Option (xw_M × β × Nat)} {q : xw_M × β × Nat} (hc : xw_cv own idx κ y b n ret na) (hk : xw_kd k = κ) (hM : ∀ r, o = some r → r.2.2 = 0 → xc_M l G y b n ret fr lo (.ref (xg_ad G k) :: As) h r.1 (some (.int r.2.1))) (hM2 : ∀ r, o = some r → ¬ r.2.2 = 0 → xt_M l G y b n ret fr lo (.ref (xg_ad G k) :: As) h r.1 r.2.2) (hn : As.length = na) (hR9 : fr + 1 ≤ R.frames ∧ 8 + (n + 11) + lo ≤ R.locals) (hst : (st.map fun v => v.category).sum ≤ 8) (hcs : cells + 1 ≤ R.cells ∧ slots + 6 ≤ R.slots) (hc1 : cells + 1 ≤ 1) (hs1 : slots + 6 ≤ 6) (hs : stk = As.reverse ++ .ref (xg_ad G k) :: st) (d : decode cc pc = .ok (.invokevirtual idx, 3)) (hR : (o.bind fun r => xo_th dv r (F r)) = some q) (K : ∀ r, o = some r → F r = some q → xj_X p l e R s m args below meth c G nL cells slots (xt_Z G below args s q.1 q.2.2) r.1 lv (pc + 3) (.int r.2.1 :: st)) : xj_X p l e R s m args below meth c G nL cells slots (xt_Z G below args s q.1 q.2.2) h lv pc stk := by
  obtain ⟨r, h1, h2⟩ := xo_b hR
  rw [hs]
  by_cases hz : r.2.2 = 0
  · unfold xo_th at h2
    exact xr_goV C hc hk (hM r h1 hz) hn hR9 hst ⟨by omega, by omega⟩ d (K r h1 (xo_t h2 hz))
  · unfold xo_th at h2
    have h3 := xo_f h2 hz
    cases h3
    exact xt_goV C htab hc hk (hM2 r h1 hz) hn hR9 hst hcs hc1 hs1 d
theorem xr_callRv (C : xj_C p s m args meth c G own cc nL) {κ k n na idx fr lo : Nat} {y : MethodName} {b : ByteArray} {ret : Option FieldType} {stk : List Value} (As : List Value) {o : Option (xw_M × Unit × Nat)} {β : Type} {dv : β} {F : xw_M × Unit × Nat → Option (xw_M × β × Nat)} {q : xw_M × β × Nat} (hq : q.2.2 = 0) (hc : xw_cv own idx κ y b n ret na) (hk : xw_kd k = κ) (hM : ∀ r, o = some r → r.2.2 = 0 → xc_M l G y b n ret fr lo (.ref (xg_ad G k) :: As) h r.1 none) (hn : As.length = na) (hR9 : fr + 1 ≤ R.frames ∧ 8 + (n + 11) + lo ≤ R.locals) (hst : (st.map fun v => v.category).sum ≤ 8) (hcs : cells ≤ R.cells ∧ slots ≤ R.slots) (hs : stk = As.reverse ++ .ref (xg_ad G k) :: st) (d : decode cc pc = .ok (.invokevirtual idx, 3)) (hR : (o.bind fun r => xo_th dv r (F r)) = some q) (K : ∀ r, o = some r → F r = some q → xj_X p l e R s m args below meth c G nL cells slots Q r.1 lv (pc + 3) st) : xj_X p l e R s m args below meth c G nL cells slots Q h lv pc stk := by
  obtain ⟨r, h1, h2⟩ := xo_b hR
  obtain ⟨h3, h4⟩ := xo_th0 hq h2
  rw [hs]
  exact xr_goV C hc hk (hM r h1 h3) hn hR9 hst hcs d (K r h1 h4)
theorem xr_callTv (C : xj_C p s m args meth c G own cc nL) (htab : ∀ x ∈ c.exceptionTable.toList, False) {κ k n na idx fr lo : Nat} {y : MethodName} {b : ByteArray} {ret : Option FieldType} {stk : List Value} (As : List Value) {o : Option (xw_M × Unit × Nat)} {β : Type} {dv : β} {F : xw_M × Unit × Nat → Option (xw_M × β × Nat)} {q : xw_M × β × Nat} (hc : xw_cv own idx κ y b n ret na) (hk : xw_kd k = κ) (hM : ∀ r, o = some r → r.2.2 = 0 → xc_M l G y b n ret fr lo (.ref (xg_ad G k) :: As) h r.1 none) (hM2 : ∀ r, o = some r → ¬ r.2.2 = 0 → xt_M l G y b n ret fr lo (.ref (xg_ad G k) :: As) h r.1 r.2.2) (hn : As.length = na) (hR9 : fr + 1 ≤ R.frames ∧ 8 + (n + 11) + lo ≤ R.locals) (hst : (st.map fun v => v.category).sum ≤ 8) (hcs : cells + 1 ≤ R.cells ∧ slots + 6 ≤ R.slots) (hc1 : cells + 1 ≤ 1) (hs1 : slots + 6 ≤ 6) (hs : stk = As.reverse ++ .ref (xg_ad G k) :: st) (d : decode cc pc = .ok (.invokevirtual idx, 3)) (hR : (o.bind fun r => xo_th dv r (F r)) = some q) (K : ∀ r, o = some r → F r = some q → xj_X p l e R s m args below meth c G nL cells slots (xt_Z G below args s q.1 q.2.2) r.1 lv (pc + 3) st) : xj_X p l e R s m args below meth c G nL cells slots (xt_Z G below args s q.1 q.2.2) h lv pc stk := by
  obtain ⟨r, h1, h2⟩ := xo_b hR
  rw [hs]
  by_cases hz : r.2.2 = 0
  · unfold xo_th at h2
    exact xr_goV C hc hk (hM r h1 hz) hn hR9 hst ⟨by omega, by omega⟩ d (K r h1 (xo_t h2 hz))
  · unfold xo_th at h2
    have h3 := xo_f h2 hz
    cases h3
    exact xt_goV C htab hc hk (hM2 r h1 hz) hn hR9 hst hcs hc1 hs1 d
theorem xr_callRl (C : xj_C p s m args meth c G own cc nL) {κ k n na idx fr lo : Nat} {y : MethodName} {b : ByteArray} {ret : Option FieldType} {stk : List Value} (As : List Value) {o : Option (xw_M × Int64 × Nat)} {β : Type} {dv : β} {F : xw_M × Int64 × Nat → Option (xw_M × β × Nat)} {q : xw_M × β × Nat} (hq : q.2.2 = 0) (hc : xw_cv own idx κ y b n ret na) (hk : xw_kd k = κ) (hM : ∀ r, o = some r → r.2.2 = 0 → xc_M l G y b n ret fr lo (.ref (xg_ad G k) :: As) h r.1 (some (.long r.2.1))) (hn : As.length = na) (hR9 : fr + 1 ≤ R.frames ∧ 8 + (n + 11) + lo ≤ R.locals) (hst : (st.map fun v => v.category).sum ≤ 8) (hcs : cells ≤ R.cells ∧ slots ≤ R.slots) (hs : stk = As.reverse ++ .ref (xg_ad G k) :: st) (d : decode cc pc = .ok (.invokevirtual idx, 3)) (hR : (o.bind fun r => xo_th dv r (F r)) = some q) (K : ∀ r, o = some r → F r = some q → xj_X p l e R s m args below meth c G nL cells slots Q r.1 lv (pc + 3) (.long r.2.1 :: st)) : xj_X p l e R s m args below meth c G nL cells slots Q h lv pc stk := by
  obtain ⟨r, h1, h2⟩ := xo_b hR
  obtain ⟨h3, h4⟩ := xo_th0 hq h2
  rw [hs]
  exact xr_goV C hc hk (hM r h1 h3) hn hR9 hst hcs d (K r h1 h4)
theorem xr_callTl (C : xj_C p s m args meth c G own cc nL) (htab : ∀ x ∈ c.exceptionTable.toList, False) {κ k n na idx fr lo : Nat} {y : MethodName} {b : ByteArray} {ret : Option FieldType} {stk : List Value} (As : List Value) {o : Option (xw_M × Int64 × Nat)} {β : Type} {dv : β} {F : xw_M × Int64 × Nat → Option (xw_M × β × Nat)} {q : xw_M × β × Nat} (hc : xw_cv own idx κ y b n ret na) (hk : xw_kd k = κ) (hM : ∀ r, o = some r → r.2.2 = 0 → xc_M l G y b n ret fr lo (.ref (xg_ad G k) :: As) h r.1 (some (.long r.2.1))) (hM2 : ∀ r, o = some r → ¬ r.2.2 = 0 → xt_M l G y b n ret fr lo (.ref (xg_ad G k) :: As) h r.1 r.2.2) (hn : As.length = na) (hR9 : fr + 1 ≤ R.frames ∧ 8 + (n + 11) + lo ≤ R.locals) (hst : (st.map fun v => v.category).sum ≤ 8) (hcs : cells + 1 ≤ R.cells ∧ slots + 6 ≤ R.slots) (hc1 : cells + 1 ≤ 1) (hs1 : slots + 6 ≤ 6) (hs : stk = As.reverse ++ .ref (xg_ad G k) :: st) (d : decode cc pc = .ok (.invokevirtual idx, 3)) (hR : (o.bind fun r => xo_th dv r (F r)) = some q) (K : ∀ r, o = some r → F r = some q → xj_X p l e R s m args below meth c G nL cells slots (xt_Z G below args s q.1 q.2.2) r.1 lv (pc + 3) (.long r.2.1 :: st)) : xj_X p l e R s m args below meth c G nL cells slots (xt_Z G below args s q.1 q.2.2) h lv pc stk := by
  obtain ⟨r, h1, h2⟩ := xo_b hR
  rw [hs]
  by_cases hz : r.2.2 = 0
  · unfold xo_th at h2
    exact xr_goV C hc hk (hM r h1 hz) hn hR9 hst ⟨by omega, by omega⟩ d (K r h1 (xo_t h2 hz))
  · unfold xo_th at h2
    have h3 := xo_f h2 hz
    cases h3
    exact xt_goV C htab hc hk (hM2 r h1 hz) hn hR9 hst hcs hc1 hs1 d
end XT
end
