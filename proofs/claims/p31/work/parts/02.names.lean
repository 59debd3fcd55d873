def RX0 : String := "WaterFibers$Channel"
def TX0 : u_T := fun k => match k with
  | 0 => ("WaterFibers$Channel", "places", "I", false)
  | 1 => ("WaterFibers$Channel", "drops", "LWaterFibers$Queue;", true)
  | 2 => ("WaterFibers$Channel", "senders", "LWaterFibers$Queue;", true)
  | _ => ("WaterFibers$Channel", "takers", "LWaterFibers$Queue;", true)
def tyX0 : Nat → FieldType := fun k => match k with
  | 0 => .int
  | 1 => .object "WaterFibers$Queue"
  | 2 => .object "WaterFibers$Queue"
  | _ => .object "WaterFibers$Queue"
abbrev wsX00 : List Cond := u_ws RX0 TX0 4
theorem nmX0 : ∀ a, a < 4 → ∀ b, b < 4 → a ≠ b → (TX0 a).2.1 ≠ (TX0 b).2.1 := by decide +kernel
theorem tyX0_ok : ∀ k, k < 4 → parseFieldDescriptor (TX0 k).2.2.1 = some (tyX0 k) := by decide +kernel
abbrev cX0_init : ByteArray := prog_2_method_1_code
def yX0_init : MethodName := ⟨RX0, "<init>", "()V"⟩
abbrev cX0_hasRoom : ByteArray := prog_2_method_2_code
def yX0_hasRoom : MethodName := ⟨RX0, "hasRoom", "()Z"⟩
abbrev cX0_becomeLike : ByteArray := prog_2_method_3_code
def yX0_becomeLike : MethodName := ⟨RX0, "becomeLike", "(LWaterFibers$Channel;)V"⟩
def RX1 : String := "WaterFibers$Clock"
def TX1 : u_T := fun k => match k with
  | 0 => ("WaterFibers$Clock", "channelRow", "[LWaterFibers$Channel;", true)
  | 1 => ("WaterFibers$Clock", "fiberRow", "[LWaterFibers$Fiber;", true)
  | 2 => ("WaterFibers$Clock", "noChannel", "LWaterFibers$Channel;", true)
  | 3 => ("WaterFibers$Clock", "noFiber", "LWaterFibers$Fiber;", true)
  | 4 => ("WaterFibers$Clock", "line", "LWaterFibers$Queue;", true)
  | 5 => ("WaterFibers$Clock", "channelCount", "I", false)
  | 6 => ("WaterFibers$Clock", "fiberCount", "I", false)
  | 7 => ("WaterFibers$Clock", "now", "I", false)
  | _ => ("WaterFibers$Clock", "idle", "I", false)
def tyX1 : Nat → FieldType := fun k => match k with
  | 0 => .array (.object "WaterFibers$Channel")
  | 1 => .array (.object "WaterFibers$Fiber")
  | 2 => .object "WaterFibers$Channel"
  | 3 => .object "WaterFibers$Fiber"
  | 4 => .object "WaterFibers$Queue"
  | 5 => .int
  | 6 => .int
  | 7 => .int
  | _ => .int
abbrev wsX10 : List Cond := u_ws RX1 TX1 9
theorem nmX1 : ∀ a, a < 9 → ∀ b, b < 9 → a ≠ b → (TX1 a).2.1 ≠ (TX1 b).2.1 := by decide +kernel
theorem tyX1_ok : ∀ k, k < 9 → parseFieldDescriptor (TX1 k).2.2.1 = some (tyX1 k) := by decide +kernel
abbrev cX1_init : ByteArray := prog_3_method_1_code
def yX1_init : MethodName := ⟨RX1, "<init>", "()V"⟩
abbrev cX1_channelAt : ByteArray := prog_3_method_2_code
def yX1_channelAt : MethodName := ⟨RX1, "channelAt", "(I)LWaterFibers$Channel;"⟩
abbrev cX1_fiberAt : ByteArray := prog_3_method_3_code
def yX1_fiberAt : MethodName := ⟨RX1, "fiberAt", "(I)LWaterFibers$Fiber;"⟩
abbrev cX1_becomeLike : ByteArray := prog_3_method_4_code
def yX1_becomeLike : MethodName := ⟨RX1, "becomeLike", "(LWaterFibers$Clock;)V"⟩
abbrev cX1_countDone : ByteArray := prog_3_method_5_code
def yX1_countDone : MethodName := ⟨RX1, "countDone", "()I"⟩
abbrev cX1_allAreDone : ByteArray := prog_3_method_6_code
def yX1_allAreDone : MethodName := ⟨RX1, "allAreDone", "()Z"⟩
abbrev cX1_hasStopped : ByteArray := prog_3_method_7_code
def yX1_hasStopped : MethodName := ⟨RX1, "hasStopped", "()Z"⟩
abbrev cX1_letTurnGoBy : ByteArray := prog_3_method_8_code
def yX1_letTurnGoBy : MethodName := ⟨RX1, "letTurnGoBy", "()V"⟩
abbrev cX1_makeReady : ByteArray := prog_3_method_9_code
def yX1_makeReady : MethodName := ⟨RX1, "makeReady", "(LWaterFibers$Fiber;)V"⟩
abbrev cX1_wakeFirst : ByteArray := prog_3_method_10_code
def yX1_wakeFirst : MethodName := ⟨RX1, "wakeFirst", "(LWaterFibers$Queue;)V"⟩
abbrev cX1_wakeSleepers : ByteArray := prog_3_method_11_code
def yX1_wakeSleepers : MethodName := ⟨RX1, "wakeSleepers", "()V"⟩
abbrev cX1_doStep : ByteArray := prog_3_method_12_code
def yX1_doStep : MethodName := ⟨RX1, "doStep", "(LWaterFibers$Fiber;)Z"⟩
abbrev cX1_send : ByteArray := prog_3_method_13_code
def yX1_send : MethodName := ⟨RX1, "send", "(LWaterFibers$Fiber;II)V"⟩
abbrev cX1_take : ByteArray := prog_3_method_14_code
def yX1_take : MethodName := ⟨RX1, "take", "(LWaterFibers$Fiber;I)V"⟩
abbrev cX1_waitFor : ByteArray := prog_3_method_15_code
def yX1_waitFor : MethodName := ⟨RX1, "waitFor", "(LWaterFibers$Fiber;I)V"⟩
abbrev cX1_endTurn : ByteArray := prog_3_method_16_code
def yX1_endTurn : MethodName := ⟨RX1, "endTurn", "(LWaterFibers$Fiber;)V"⟩
def RX2 : String := "WaterFibers$Fiber"
def TX2 : u_T := fun k => match k with
  | 0 => ("WaterFibers$Fiber", "number", "I", true)
  | 1 => ("WaterFibers$Fiber", "state", "I", false)
  | 2 => ("WaterFibers$Fiber", "place", "I", false)
  | 3 => ("WaterFibers$Fiber", "sum", "I", false)
  | 4 => ("WaterFibers$Fiber", "stepsBehind", "I", false)
  | 5 => ("WaterFibers$Fiber", "turnsHad", "I", false)
  | 6 => ("WaterFibers$Fiber", "wakesAt", "I", false)
  | 7 => ("WaterFibers$Fiber", "stepCount", "I", false)
  | 8 => ("WaterFibers$Fiber", "steps", "[LWaterFibers$Step;", true)
  | _ => ("WaterFibers$Fiber", "noStep", "LWaterFibers$Step;", true)
def tyX2 : Nat → FieldType := fun k => match k with
  | 0 => .int
  | 1 => .int
  | 2 => .int
  | 3 => .int
  | 4 => .int
  | 5 => .int
  | 6 => .int
  | 7 => .int
  | 8 => .array (.object "WaterFibers$Step")
  | _ => .object "WaterFibers$Step"
abbrev wsX20 : List Cond := u_ws RX2 TX2 10
theorem nmX2 : ∀ a, a < 10 → ∀ b, b < 10 → a ≠ b → (TX2 a).2.1 ≠ (TX2 b).2.1 := by decide +kernel
theorem tyX2_ok : ∀ k, k < 10 → parseFieldDescriptor (TX2 k).2.2.1 = some (tyX2 k) := by decide +kernel
abbrev cX2_init : ByteArray := prog_4_method_1_code
def yX2_init : MethodName := ⟨RX2, "<init>", "(I)V"⟩
abbrev cX2_stepAt : ByteArray := prog_4_method_2_code
def yX2_stepAt : MethodName := ⟨RX2, "stepAt", "(I)LWaterFibers$Step;"⟩
abbrev cX2_hasStepsLeft : ByteArray := prog_4_method_3_code
def yX2_hasStepsLeft : MethodName := ⟨RX2, "hasStepsLeft", "()Z"⟩
abbrev cX2_moveOn : ByteArray := prog_4_method_4_code
def yX2_moveOn : MethodName := ⟨RX2, "moveOn", "()V"⟩
abbrev cX2_goBack : ByteArray := prog_4_method_5_code
def yX2_goBack : MethodName := ⟨RX2, "goBack", "(LWaterFibers$Step;)V"⟩
abbrev cX2_becomeLike : ByteArray := prog_4_method_6_code
def yX2_becomeLike : MethodName := ⟨RX2, "becomeLike", "(LWaterFibers$Fiber;)V"⟩
def RX3 : String := "WaterFibers$Queue"
def TX3 : u_T := fun k => match k with
  | 0 => ("WaterFibers$Queue", "cells", "[I", true)
  | _ => ("WaterFibers$Queue", "size", "I", false)
def tyX3 : Nat → FieldType := fun k => match k with
  | 0 => .array .int
  | _ => .int
abbrev wsX30 : List Cond := u_ws RX3 TX3 2
theorem nmX3 : ∀ a, a < 2 → ∀ b, b < 2 → a ≠ b → (TX3 a).2.1 ≠ (TX3 b).2.1 := by decide +kernel
theorem tyX3_ok : ∀ k, k < 2 → parseFieldDescriptor (TX3 k).2.2.1 = some (tyX3 k) := by decide +kernel
abbrev cX3_init : ByteArray := prog_5_method_1_code
def yX3_init : MethodName := ⟨RX3, "<init>", "()V"⟩
abbrev cX3_look : ByteArray := prog_5_method_2_code
def yX3_look : MethodName := ⟨RX3, "look", "(I)I"⟩
abbrev cX3_find : ByteArray := prog_5_method_3_code
def yX3_find : MethodName := ⟨RX3, "find", "(I)I"⟩
abbrev cX3_addLast : ByteArray := prog_5_method_4_code
def yX3_addLast : MethodName := ⟨RX3, "addLast", "(I)V"⟩
abbrev cX3_takeFirst : ByteArray := prog_5_method_5_code
def yX3_takeFirst : MethodName := ⟨RX3, "takeFirst", "()I"⟩
abbrev cX3_becomeLike : ByteArray := prog_5_method_6_code
def yX3_becomeLike : MethodName := ⟨RX3, "becomeLike", "(LWaterFibers$Queue;)V"⟩
def RX4 : String := "WaterFibers$Step"
def TX4 : u_T := fun k => match k with
  | 0 => ("WaterFibers$Step", "kind", "I", false)
  | 1 => ("WaterFibers$Step", "one", "I", false)
  | 2 => ("WaterFibers$Step", "two", "I", false)
  | _ => ("WaterFibers$Step", "backs", "I", false)
def tyX4 : Nat → FieldType := fun k => match k with
  | 0 => .int
  | 1 => .int
  | 2 => .int
  | _ => .int
abbrev wsX40 : List Cond := u_ws RX4 TX4 4
theorem nmX4 : ∀ a, a < 4 → ∀ b, b < 4 → a ≠ b → (TX4 a).2.1 ≠ (TX4 b).2.1 := by decide +kernel
theorem tyX4_ok : ∀ k, k < 4 → parseFieldDescriptor (TX4 k).2.2.1 = some (tyX4 k) := by decide +kernel
abbrev cX4_init : ByteArray := prog_6_method_1_code
def yX4_init : MethodName := ⟨RX4, "<init>", "()V"⟩
abbrev cX4_describe : ByteArray := prog_6_method_2_code
def yX4_describe : MethodName := ⟨RX4, "describe", "(III)V"⟩
abbrev cX4_becomeLike : ByteArray := prog_6_method_3_code
def yX4_becomeLike : MethodName := ⟨RX4, "becomeLike", "(LWaterFibers$Step;)V"⟩
def RX5 : String := "WaterFibers"
def TX5 : u_T := fun k => match k with
  | 0 => ("WaterFibers", "real", "LWaterFibers$Clock;", true)
  | _ => ("WaterFibers", "trial", "LWaterFibers$Clock;", true)
def tyX5 : Nat → FieldType := fun k => match k with
  | 0 => .object "WaterFibers$Clock"
  | _ => .object "WaterFibers$Clock"
abbrev wsX50 : List Cond := u_ws RX5 TX5 2
theorem nmX5 : ∀ a, a < 2 → ∀ b, b < 2 → a ≠ b → (TX5 a).2.1 ≠ (TX5 b).2.1 := by decide +kernel
theorem tyX5_ok : ∀ k, k < 2 → parseFieldDescriptor (TX5 k).2.2.1 = some (tyX5 k) := by decide +kernel
abbrev cX5_init : ByteArray := prog_1_method_1_code
def yX5_init : MethodName := ⟨RX5, "<init>", "()V"⟩
abbrev cX5_addChannel : ByteArray := prog_1_method_2_code
def yX5_addChannel : MethodName := ⟨RX5, "addChannel", "(I)I"⟩
abbrev cX5_addFiber : ByteArray := prog_1_method_3_code
def yX5_addFiber : MethodName := ⟨RX5, "addFiber", "()I"⟩
abbrev cX5_addStep : ByteArray := prog_1_method_4_code
def yX5_addStep : MethodName := ⟨RX5, "addStep", "(IIII)I"⟩
abbrev cX5_pour : ByteArray := prog_1_method_5_code
def yX5_pour : MethodName := ⟨RX5, "pour", "(II)I"⟩
abbrev cX5_run : ByteArray := prog_1_method_6_code
def yX5_run : MethodName := ⟨RX5, "run", "(I)I"⟩
abbrev cX5_time : ByteArray := prog_1_method_7_code
def yX5_time : MethodName := ⟨RX5, "time", "()I"⟩
abbrev cX5_channels : ByteArray := prog_1_method_8_code
def yX5_channels : MethodName := ⟨RX5, "channels", "()I"⟩
abbrev cX5_fibers : ByteArray := prog_1_method_9_code
def yX5_fibers : MethodName := ⟨RX5, "fibers", "()I"⟩
abbrev cX5_done : ByteArray := prog_1_method_10_code
def yX5_done : MethodName := ⟨RX5, "done", "()I"⟩
abbrev cX5_idleTurns : ByteArray := prog_1_method_11_code
def yX5_idleTurns : MethodName := ⟨RX5, "idleTurns", "()I"⟩
abbrev cX5_next : ByteArray := prog_1_method_12_code
def yX5_next : MethodName := ⟨RX5, "next", "()I"⟩
abbrev cX5_isStuck : ByteArray := prog_1_method_13_code
def yX5_isStuck : MethodName := ⟨RX5, "isStuck", "()Z"⟩
abbrev cX5_held : ByteArray := prog_1_method_14_code
def yX5_held : MethodName := ⟨RX5, "held", "(I)I"⟩
abbrev cX5_valueAt : ByteArray := prog_1_method_15_code
def yX5_valueAt : MethodName := ⟨RX5, "valueAt", "(II)I"⟩
abbrev cX5_sendersAt : ByteArray := prog_1_method_16_code
def yX5_sendersAt : MethodName := ⟨RX5, "sendersAt", "(I)I"⟩
abbrev cX5_takersAt : ByteArray := prog_1_method_17_code
def yX5_takersAt : MethodName := ⟨RX5, "takersAt", "(I)I"⟩
abbrev cX5_stateOf : ByteArray := prog_1_method_18_code
def yX5_stateOf : MethodName := ⟨RX5, "stateOf", "(I)I"⟩
abbrev cX5_placeOf : ByteArray := prog_1_method_19_code
def yX5_placeOf : MethodName := ⟨RX5, "placeOf", "(I)I"⟩
abbrev cX5_sumOf : ByteArray := prog_1_method_20_code
def yX5_sumOf : MethodName := ⟨RX5, "sumOf", "(I)I"⟩
abbrev cX5_stepsDone : ByteArray := prog_1_method_21_code
def yX5_stepsDone : MethodName := ⟨RX5, "stepsDone", "(I)I"⟩
abbrev cX5_turnsOf : ByteArray := prog_1_method_22_code
def yX5_turnsOf : MethodName := ⟨RX5, "turnsOf", "(I)I"⟩
abbrev cX5_placeInLine : ByteArray := prog_1_method_23_code
def yX5_placeInLine : MethodName := ⟨RX5, "placeInLine", "(I)I"⟩
abbrev cX5_turnsUntilDone : ByteArray := prog_1_method_24_code
def yX5_turnsUntilDone : MethodName := ⟨RX5, "turnsUntilDone", "(I)I"⟩
abbrev cX5_turnsUntilStuck : ByteArray := prog_1_method_25_code
def yX5_turnsUntilStuck : MethodName := ⟨RX5, "turnsUntilStuck", "()I"⟩
abbrev cX5_sumIn : ByteArray := prog_1_method_26_code
def yX5_sumIn : MethodName := ⟨RX5, "sumIn", "(II)I"⟩
abbrev cX5_placesWanted : ByteArray := prog_1_method_27_code
def yX5_placesWanted : MethodName := ⟨RX5, "placesWanted", "(I)I"⟩
abbrev cX5_meanTurns : ByteArray := prog_1_method_28_code
def yX5_meanTurns : MethodName := ⟨RX5, "meanTurns", "()D"⟩
abbrev cX5_digest : ByteArray := prog_1_method_29_code
def yX5_digest : MethodName := ⟨RX5, "digest", "()J"⟩
abbrev cX5_checkChannel : ByteArray := prog_1_method_30_code
def yX5_checkChannel : MethodName := ⟨RX5, "checkChannel", "(I)V"⟩
abbrev cX5_checkFiber : ByteArray := prog_1_method_31_code
def yX5_checkFiber : MethodName := ⟨RX5, "checkFiber", "(I)V"⟩
abbrev cX5_checkTurns : ByteArray := prog_1_method_32_code
def yX5_checkTurns : MethodName := ⟨RX5, "checkTurns", "(I)V"⟩
abbrev cX5_isChannel : ByteArray := prog_1_method_33_code
def yX5_isChannel : MethodName := ⟨RX5, "isChannel", "(I)Z"⟩
abbrev cX5_isFiber : ByteArray := prog_1_method_34_code
def yX5_isFiber : MethodName := ⟨RX5, "isFiber", "(I)Z"⟩
abbrev cX5_isValue : ByteArray := prog_1_method_35_code
def yX5_isValue : MethodName := ⟨RX5, "isValue", "(I)Z"⟩
abbrev cX5_isStep : ByteArray := prog_1_method_36_code
def yX5_isStep : MethodName := ⟨RX5, "isStep", "(IIII)Z"⟩
def RX6 : String := "WaterFibersLaw$Fiber"
def TX6 : u_T := fun k => match k with
  | 0 => ("WaterFibersLaw$Fiber", "steps", "[[I", false)
  | 1 => ("WaterFibersLaw$Fiber", "back", "[I", false)
  | 2 => ("WaterFibersLaw$Fiber", "place", "I", false)
  | 3 => ("WaterFibersLaw$Fiber", "sum", "I", false)
  | 4 => ("WaterFibersLaw$Fiber", "state", "I", false)
  | 5 => ("WaterFibersLaw$Fiber", "wakes", "I", false)
  | 6 => ("WaterFibersLaw$Fiber", "did", "I", false)
  | _ => ("WaterFibersLaw$Fiber", "turns", "I", false)
def tyX6 : Nat → FieldType := fun k => match k with
  | 0 => .array (.array .int)
  | 1 => .array .int
  | 2 => .int
  | 3 => .int
  | 4 => .int
  | 5 => .int
  | 6 => .int
  | _ => .int
abbrev wsX60 : List Cond := u_ws RX6 TX6 8
theorem nmX6 : ∀ a, a < 8 → ∀ b, b < 8 → a ≠ b → (TX6 a).2.1 ≠ (TX6 b).2.1 := by decide +kernel
theorem tyX6_ok : ∀ k, k < 8 → parseFieldDescriptor (TX6 k).2.2.1 = some (tyX6 k) := by decide +kernel
abbrev cX6_init : ByteArray := prog_8_method_1_code
def yX6_init : MethodName := ⟨RX6, "<init>", "()V"⟩
def RX7 : String := "WaterFibersLaw$Sim"
def TX7 : u_T := fun k => match k with
  | 0 => ("WaterFibersLaw$Sim", "time", "I", false)
  | 1 => ("WaterFibersLaw$Sim", "idle", "I", false)
  | 2 => ("WaterFibersLaw$Sim", "places", "[I", false)
  | 3 => ("WaterFibersLaw$Sim", "drops", "[[I", false)
  | 4 => ("WaterFibersLaw$Sim", "fibers", "[LWaterFibersLaw$Fiber;", false)
  | 5 => ("WaterFibersLaw$Sim", "line", "[I", false)
  | _ => ("WaterFibersLaw$Sim", "waiting", "[I", false)
def tyX7 : Nat → FieldType := fun k => match k with
  | 0 => .int
  | 1 => .int
  | 2 => .array .int
  | 3 => .array (.array .int)
  | 4 => .array (.object "WaterFibersLaw$Fiber")
  | 5 => .array .int
  | _ => .array .int
abbrev wsX70 : List Cond := u_ws RX7 TX7 7
theorem nmX7 : ∀ a, a < 7 → ∀ b, b < 7 → a ≠ b → (TX7 a).2.1 ≠ (TX7 b).2.1 := by decide +kernel
theorem tyX7_ok : ∀ k, k < 7 → parseFieldDescriptor (TX7 k).2.2.1 = some (tyX7 k) := by decide +kernel
abbrev cX7_init : ByteArray := prog_9_method_1_code
def yX7_init : MethodName := ⟨RX7, "<init>", "()V"⟩
abbrev cX7_with : ByteArray := prog_9_method_2_code
def yX7_with : MethodName := ⟨RX7, "with", "([II)[I"⟩
abbrev cX7_without : ByteArray := prog_9_method_3_code
def yX7_without : MethodName := ⟨RX7, "without", "([II)[I"⟩
abbrev cX7_addChannel : ByteArray := prog_9_method_5_code
def yX7_addChannel : MethodName := ⟨RX7, "addChannel", "(I)V"⟩
abbrev cX7_addFiber : ByteArray := prog_9_method_6_code
def yX7_addFiber : MethodName := ⟨RX7, "addFiber", "()V"⟩
abbrev cX7_canAdd : ByteArray := prog_9_method_7_code
def yX7_canAdd : MethodName := ⟨RX7, "canAdd", "(IIII)Z"⟩
abbrev cX7_addStep : ByteArray := prog_9_method_8_code
def yX7_addStep : MethodName := ⟨RX7, "addStep", "(IIII)V"⟩
abbrev cX7_ready : ByteArray := prog_9_method_9_code
def yX7_ready : MethodName := ⟨RX7, "ready", "(I)V"⟩
abbrev cX7_waitIn : ByteArray := prog_9_method_10_code
def yX7_waitIn : MethodName := ⟨RX7, "waitIn", "(II)V"⟩
abbrev cX7_wake : ByteArray := prog_9_method_11_code
def yX7_wake : MethodName := ⟨RX7, "wake", "(II)V"⟩
abbrev cX7_waitingAt : ByteArray := prog_9_method_12_code
def yX7_waitingAt : MethodName := ⟨RX7, "waitingAt", "(II)I"⟩
abbrev cX7_isSent : ByteArray := prog_9_method_13_code
def yX7_isSent : MethodName := ⟨RX7, "isSent", "(II)Z"⟩
abbrev cX7_go : ByteArray := prog_9_method_14_code
def yX7_go : MethodName := ⟨RX7, "go", "(I)V"⟩
abbrev cX7_pass : ByteArray := prog_9_method_15_code
def yX7_pass : MethodName := ⟨RX7, "pass", "()Z"⟩
abbrev cX7_pass_ : ByteArray := prog_9_method_16_code
def yX7_pass_ : MethodName := ⟨RX7, "pass", "(I)I"⟩
abbrev cX7_done : ByteArray := prog_9_method_17_code
def yX7_done : MethodName := ⟨RX7, "done", "()I"⟩
abbrev cX7_isStuck : ByteArray := prog_9_method_18_code
def yX7_isStuck : MethodName := ⟨RX7, "isStuck", "()Z"⟩
abbrev cX7_isSame : ByteArray := prog_9_method_19_code
def yX7_isSame : MethodName := ⟨RX7, "isSame", "(LWaterFibers;)Z"⟩
def RX8 : String := "WaterFibersModel"
def TX8 : u_T := fun k => match k with
  | _ => ("", "", "", false)
def tyX8 : Nat → FieldType := fun k => match k with
  | _ => .int
abbrev wsX80 : List Cond := u_ws RX8 TX8 0
theorem nmX8 : ∀ a, a < 0 → ∀ b, b < 0 → a ≠ b → (TX8 a).2.1 ≠ (TX8 b).2.1 := by decide +kernel
theorem tyX8_ok : ∀ k, k < 0 → parseFieldDescriptor (TX8 k).2.2.1 = some (tyX8 k) := by decide +kernel
def RL : String := "WaterFibersLaw"
abbrev cL_below : ByteArray := method_2_code
def yL_below : MethodName := ⟨RL, "below", "(II)I"⟩
abbrev cL_cell : ByteArray := method_3_code
def yL_cell : MethodName := ⟨RL, "cell", "([II)I"⟩
abbrev cL_act : ByteArray := method_4_code
def yL_act : MethodName := ⟨RL, "act", "(LWaterFibers;LWaterFibersLaw$Sim;I)Z"⟩
abbrev cL_build : ByteArray := method_5_code
def yL_build : MethodName := ⟨RL, "build", "(LWaterFibers;[I)LWaterFibersLaw$Sim;"⟩
abbrev cL_law : ByteArray := code
def yL_law : MethodName := ⟨RL, "law", "([I)Z"⟩
abbrev vwCl : List vw_C := [(RX0, TX0, 4), (RX1, TX1, 9), (RX2, TX2, 10), (RX3, TX3, 2), (RX4, TX4, 4), (RX5, TX5, 2), (RX6, TX6, 8), (RX7, TX7, 7)]
theorem dX0_init_0 : decode cX0_init 0 = .ok (.aload_n 0, 1) := by decide +kernel
theorem dX0_init_1 : decode cX0_init 1 = .ok (.invokespecial 1, 3) := by decide +kernel
theorem dX0_init_4 : decode cX0_init 4 = .ok (.aload_n 0, 1) := by decide +kernel
theorem dX0_init_5 : decode cX0_init 5 = .ok (.new 7, 3) := by decide +kernel
theorem dX0_init_8 : decode cX0_init 8 = .ok (.dup, 1) := by decide +kernel
theorem dX0_init_9 : decode cX0_init 9 = .ok (.invokespecial 9, 3) := by decide +kernel
theorem dX0_init_12 : decode cX0_init 12 = .ok (.putfield 10, 3) := by decide +kernel
theorem dX0_init_15 : decode cX0_init 15 = .ok (.aload_n 0, 1) := by decide +kernel
theorem dX0_init_16 : decode cX0_init 16 = .ok (.new 7, 3) := by decide +kernel
theorem dX0_init_19 : decode cX0_init 19 = .ok (.dup, 1) := by decide +kernel
theorem dX0_init_20 : decode cX0_init 20 = .ok (.invokespecial 9, 3) := by decide +kernel
theorem dX0_init_23 : decode cX0_init 23 = .ok (.putfield 16, 3) := by decide +kernel
theorem dX0_init_26 : decode cX0_init 26 = .ok (.aload_n 0, 1) := by decide +kernel
theorem dX0_init_27 : decode cX0_init 27 = .ok (.new 7, 3) := by decide +kernel
theorem dX0_init_30 : decode cX0_init 30 = .ok (.dup, 1) := by decide +kernel
theorem dX0_init_31 : decode cX0_init 31 = .ok (.invokespecial 9, 3) := by decide +kernel
theorem dX0_init_34 : decode cX0_init 34 = .ok (.putfield 19, 3) := by decide +kernel
theorem dX0_init_37 : decode cX0_init 37 = .ok (.return_, 1) := by decide +kernel
theorem dX0_hasRoom_0 : decode cX0_hasRoom 0 = .ok (.aload_n 0, 1) := by decide +kernel
theorem dX0_hasRoom_1 : decode cX0_hasRoom 1 = .ok (.getfield 10, 3) := by decide +kernel
theorem dX0_hasRoom_4 : decode cX0_hasRoom 4 = .ok (.getfield 22, 3) := by decide +kernel
theorem dX0_hasRoom_7 : decode cX0_hasRoom 7 = .ok (.aload_n 0, 1) := by decide +kernel
theorem dX0_hasRoom_8 : decode cX0_hasRoom 8 = .ok (.getfield 26, 3) := by decide +kernel
theorem dX0_hasRoom_11 : decode cX0_hasRoom 11 = .ok (.if_icmp .ge 7, 3) := by decide +kernel
theorem dX0_hasRoom_14 : decode cX0_hasRoom 14 = .ok (.iconst 1, 1) := by decide +kernel
theorem dX0_hasRoom_15 : decode cX0_hasRoom 15 = .ok (.goto 4, 3) := by decide +kernel
theorem dX0_hasRoom_18 : decode cX0_hasRoom 18 = .ok (.iconst 0, 1) := by decide +kernel
theorem dX0_hasRoom_19 : decode cX0_hasRoom 19 = .ok (.ireturn, 1) := by decide +kernel
theorem dX0_becomeLike_0 : decode cX0_becomeLike 0 = .ok (.aload_n 0, 1) := by decide +kernel
theorem dX0_becomeLike_1 : decode cX0_becomeLike 1 = .ok (.aload_n 1, 1) := by decide +kernel
theorem dX0_becomeLike_2 : decode cX0_becomeLike 2 = .ok (.getfield 26, 3) := by decide +kernel
theorem dX0_becomeLike_5 : decode cX0_becomeLike 5 = .ok (.putfield 26, 3) := by decide +kernel
theorem dX0_becomeLike_8 : decode cX0_becomeLike 8 = .ok (.aload_n 0, 1) := by decide +kernel
theorem dX0_becomeLike_9 : decode cX0_becomeLike 9 = .ok (.getfield 10, 3) := by decide +kernel
theorem dX0_becomeLike_12 : decode cX0_becomeLike 12 = .ok (.aload_n 1, 1) := by decide +kernel
theorem dX0_becomeLike_13 : decode cX0_becomeLike 13 = .ok (.getfield 10, 3) := by decide +kernel
theorem dX0_becomeLike_16 : decode cX0_becomeLike 16 = .ok (.invokevirtual 29, 3) := by decide +kernel
theorem dX0_becomeLike_19 : decode cX0_becomeLike 19 = .ok (.aload_n 0, 1) := by decide +kernel
theorem dX0_becomeLike_20 : decode cX0_becomeLike 20 = .ok (.getfield 16, 3) := by decide +kernel
theorem dX0_becomeLike_23 : decode cX0_becomeLike 23 = .ok (.aload_n 1, 1) := by decide +kernel
theorem dX0_becomeLike_24 : decode cX0_becomeLike 24 = .ok (.getfield 16, 3) := by decide +kernel
theorem dX0_becomeLike_27 : decode cX0_becomeLike 27 = .ok (.invokevirtual 29, 3) := by decide +kernel
theorem dX0_becomeLike_30 : decode cX0_becomeLike 30 = .ok (.aload_n 0, 1) := by decide +kernel
theorem dX0_becomeLike_31 : decode cX0_becomeLike 31 = .ok (.getfield 19, 3) := by decide +kernel
theorem dX0_becomeLike_34 : decode cX0_becomeLike 34 = .ok (.aload_n 1, 1) := by decide +kernel
theorem dX0_becomeLike_35 : decode cX0_becomeLike 35 = .ok (.getfield 19, 3) := by decide +kernel
theorem dX0_becomeLike_38 : decode cX0_becomeLike 38 = .ok (.invokevirtual 29, 3) := by decide +kernel
theorem dX0_becomeLike_41 : decode cX0_becomeLike 41 = .ok (.return_, 1) := by decide +kernel
theorem dX1_init_0 : decode cX1_init 0 = .ok (.aload_n 0, 1) := by decide +kernel
theorem dX1_init_1 : decode cX1_init 1 = .ok (.invokespecial 3, 3) := by decide +kernel
theorem dX1_init_4 : decode cX1_init 4 = .ok (.aload_n 0, 1) := by decide +kernel
theorem dX1_init_5 : decode cX1_init 5 = .ok (.iconst 4, 1) := by decide +kernel
theorem dX1_init_6 : decode cX1_init 6 = .ok (.anewarray 9, 3) := by decide +kernel
theorem dX1_init_9 : decode cX1_init 9 = .ok (.putfield 11, 3) := by decide +kernel
theorem dX1_init_12 : decode cX1_init 12 = .ok (.aload_n 0, 1) := by decide +kernel
theorem dX1_init_13 : decode cX1_init 13 = .ok (.bipush 8, 2) := by decide +kernel
theorem dX1_init_15 : decode cX1_init 15 = .ok (.anewarray 17, 3) := by decide +kernel
theorem dX1_init_18 : decode cX1_init 18 = .ok (.putfield 19, 3) := by decide +kernel
theorem dX1_init_21 : decode cX1_init 21 = .ok (.aload_n 0, 1) := by decide +kernel
theorem dX1_init_22 : decode cX1_init 22 = .ok (.new 9, 3) := by decide +kernel
theorem dX1_init_25 : decode cX1_init 25 = .ok (.dup, 1) := by decide +kernel
theorem dX1_init_26 : decode cX1_init 26 = .ok (.invokespecial 23, 3) := by decide +kernel
theorem dX1_init_29 : decode cX1_init 29 = .ok (.putfield 24, 3) := by decide +kernel
theorem dX1_init_32 : decode cX1_init 32 = .ok (.aload_n 0, 1) := by decide +kernel
theorem dX1_init_33 : decode cX1_init 33 = .ok (.new 17, 3) := by decide +kernel
theorem dX1_init_36 : decode cX1_init 36 = .ok (.dup, 1) := by decide +kernel
theorem dX1_init_37 : decode cX1_init 37 = .ok (.iconst (-1), 1) := by decide +kernel
theorem dX1_init_38 : decode cX1_init 38 = .ok (.invokespecial 28, 3) := by decide +kernel
theorem dX1_init_41 : decode cX1_init 41 = .ok (.putfield 31, 3) := by decide +kernel
theorem dX1_init_44 : decode cX1_init 44 = .ok (.aload_n 0, 1) := by decide +kernel
theorem dX1_init_45 : decode cX1_init 45 = .ok (.new 35, 3) := by decide +kernel
theorem dX1_init_48 : decode cX1_init 48 = .ok (.dup, 1) := by decide +kernel
theorem dX1_init_49 : decode cX1_init 49 = .ok (.invokespecial 37, 3) := by decide +kernel
theorem dX1_init_52 : decode cX1_init 52 = .ok (.putfield 38, 3) := by decide +kernel
theorem dX1_init_55 : decode cX1_init 55 = .ok (.iconst 0, 1) := by decide +kernel
theorem dX1_init_56 : decode cX1_init 56 = .ok (.istore_n 1, 1) := by decide +kernel
theorem dX1_init_57 : decode cX1_init 57 = .ok (.iload_n 1, 1) := by decide +kernel
theorem dX1_init_58 : decode cX1_init 58 = .ok (.aload_n 0, 1) := by decide +kernel
theorem dX1_init_59 : decode cX1_init 59 = .ok (.getfield 11, 3) := by decide +kernel
theorem dX1_init_62 : decode cX1_init 62 = .ok (.arraylength, 1) := by decide +kernel
theorem dX1_init_63 : decode cX1_init 63 = .ok (.if_icmp .ge 22, 3) := by decide +kernel
theorem dX1_init_66 : decode cX1_init 66 = .ok (.aload_n 0, 1) := by decide +kernel
theorem dX1_init_67 : decode cX1_init 67 = .ok (.getfield 11, 3) := by decide +kernel
theorem dX1_init_70 : decode cX1_init 70 = .ok (.iload_n 1, 1) := by decide +kernel
theorem dX1_init_71 : decode cX1_init 71 = .ok (.new 9, 3) := by decide +kernel
theorem dX1_init_74 : decode cX1_init 74 = .ok (.dup, 1) := by decide +kernel
theorem dX1_init_75 : decode cX1_init 75 = .ok (.invokespecial 23, 3) := by decide +kernel
theorem dX1_init_78 : decode cX1_init 78 = .ok (.aastore, 1) := by decide +kernel
theorem dX1_init_79 : decode cX1_init 79 = .ok (.iinc 1 1, 3) := by decide +kernel
theorem dX1_init_82 : decode cX1_init 82 = .ok (.goto (-25), 3) := by decide +kernel
theorem dX1_init_85 : decode cX1_init 85 = .ok (.iconst 0, 1) := by decide +kernel
theorem dX1_init_86 : decode cX1_init 86 = .ok (.istore_n 1, 1) := by decide +kernel
theorem dX1_init_87 : decode cX1_init 87 = .ok (.iload_n 1, 1) := by decide +kernel
theorem dX1_init_88 : decode cX1_init 88 = .ok (.aload_n 0, 1) := by decide +kernel
theorem dX1_init_89 : decode cX1_init 89 = .ok (.getfield 19, 3) := by decide +kernel
theorem dX1_init_92 : decode cX1_init 92 = .ok (.arraylength, 1) := by decide +kernel
theorem dX1_init_93 : decode cX1_init 93 = .ok (.if_icmp .ge 23, 3) := by decide +kernel
theorem dX1_init_96 : decode cX1_init 96 = .ok (.aload_n 0, 1) := by decide +kernel
theorem dX1_init_97 : decode cX1_init 97 = .ok (.getfield 19, 3) := by decide +kernel
theorem dX1_init_100 : decode cX1_init 100 = .ok (.iload_n 1, 1) := by decide +kernel
theorem dX1_init_101 : decode cX1_init 101 = .ok (.new 17, 3) := by decide +kernel
theorem dX1_init_104 : decode cX1_init 104 = .ok (.dup, 1) := by decide +kernel
theorem dX1_init_105 : decode cX1_init 105 = .ok (.iload_n 1, 1) := by decide +kernel
theorem dX1_init_106 : decode cX1_init 106 = .ok (.invokespecial 28, 3) := by decide +kernel
theorem dX1_init_109 : decode cX1_init 109 = .ok (.aastore, 1) := by decide +kernel
theorem dX1_init_110 : decode cX1_init 110 = .ok (.iinc 1 1, 3) := by decide +kernel
theorem dX1_init_113 : decode cX1_init 113 = .ok (.goto (-26), 3) := by decide +kernel
theorem dX1_init_116 : decode cX1_init 116 = .ok (.return_, 1) := by decide +kernel
theorem dX1_channelAt_0 : decode cX1_channelAt 0 = .ok (.iload_n 1, 1) := by decide +kernel
theorem dX1_channelAt_1 : decode cX1_channelAt 1 = .ok (.ifCond .lt 12, 3) := by decide +kernel
theorem dX1_channelAt_4 : decode cX1_channelAt 4 = .ok (.iload_n 1, 1) := by decide +kernel
theorem dX1_channelAt_5 : decode cX1_channelAt 5 = .ok (.aload_n 0, 1) := by decide +kernel
theorem dX1_channelAt_6 : decode cX1_channelAt 6 = .ok (.getfield 11, 3) := by decide +kernel
theorem dX1_channelAt_9 : decode cX1_channelAt 9 = .ok (.arraylength, 1) := by decide +kernel
theorem dX1_channelAt_10 : decode cX1_channelAt 10 = .ok (.if_icmp .lt 8, 3) := by decide +kernel
theorem dX1_channelAt_13 : decode cX1_channelAt 13 = .ok (.aload_n 0, 1) := by decide +kernel
theorem dX1_channelAt_14 : decode cX1_channelAt 14 = .ok (.getfield 24, 3) := by decide +kernel
theorem dX1_channelAt_17 : decode cX1_channelAt 17 = .ok (.areturn, 1) := by decide +kernel
theorem dX1_channelAt_18 : decode cX1_channelAt 18 = .ok (.aload_n 0, 1) := by decide +kernel
theorem dX1_channelAt_19 : decode cX1_channelAt 19 = .ok (.getfield 11, 3) := by decide +kernel
theorem dX1_channelAt_22 : decode cX1_channelAt 22 = .ok (.iload_n 1, 1) := by decide +kernel
theorem dX1_channelAt_23 : decode cX1_channelAt 23 = .ok (.aaload, 1) := by decide +kernel
theorem dX1_channelAt_24 : decode cX1_channelAt 24 = .ok (.astore_n 2, 1) := by decide +kernel
theorem dX1_channelAt_25 : decode cX1_channelAt 25 = .ok (.aload_n 2, 1) := by decide +kernel
theorem dX1_channelAt_26 : decode cX1_channelAt 26 = .ok (.ifnonnull 10, 3) := by decide +kernel
theorem dX1_channelAt_29 : decode cX1_channelAt 29 = .ok (.aload_n 0, 1) := by decide +kernel
theorem dX1_channelAt_30 : decode cX1_channelAt 30 = .ok (.getfield 24, 3) := by decide +kernel
theorem dX1_channelAt_33 : decode cX1_channelAt 33 = .ok (.goto 4, 3) := by decide +kernel
theorem dX1_channelAt_36 : decode cX1_channelAt 36 = .ok (.aload_n 2, 1) := by decide +kernel
theorem dX1_channelAt_37 : decode cX1_channelAt 37 = .ok (.areturn, 1) := by decide +kernel
theorem dX1_fiberAt_0 : decode cX1_fiberAt 0 = .ok (.iload_n 1, 1) := by decide +kernel
theorem dX1_fiberAt_1 : decode cX1_fiberAt 1 = .ok (.ifCond .lt 12, 3) := by decide +kernel
theorem dX1_fiberAt_4 : decode cX1_fiberAt 4 = .ok (.iload_n 1, 1) := by decide +kernel
theorem dX1_fiberAt_5 : decode cX1_fiberAt 5 = .ok (.aload_n 0, 1) := by decide +kernel
theorem dX1_fiberAt_6 : decode cX1_fiberAt 6 = .ok (.getfield 19, 3) := by decide +kernel
theorem dX1_fiberAt_9 : decode cX1_fiberAt 9 = .ok (.arraylength, 1) := by decide +kernel
theorem dX1_fiberAt_10 : decode cX1_fiberAt 10 = .ok (.if_icmp .lt 8, 3) := by decide +kernel
theorem dX1_fiberAt_13 : decode cX1_fiberAt 13 = .ok (.aload_n 0, 1) := by decide +kernel
theorem dX1_fiberAt_14 : decode cX1_fiberAt 14 = .ok (.getfield 31, 3) := by decide +kernel
theorem dX1_fiberAt_17 : decode cX1_fiberAt 17 = .ok (.areturn, 1) := by decide +kernel
theorem dX1_fiberAt_18 : decode cX1_fiberAt 18 = .ok (.aload_n 0, 1) := by decide +kernel
theorem dX1_fiberAt_19 : decode cX1_fiberAt 19 = .ok (.getfield 19, 3) := by decide +kernel
theorem dX1_fiberAt_22 : decode cX1_fiberAt 22 = .ok (.iload_n 1, 1) := by decide +kernel
theorem dX1_fiberAt_23 : decode cX1_fiberAt 23 = .ok (.aaload, 1) := by decide +kernel
theorem dX1_fiberAt_24 : decode cX1_fiberAt 24 = .ok (.astore_n 2, 1) := by decide +kernel
theorem dX1_fiberAt_25 : decode cX1_fiberAt 25 = .ok (.aload_n 2, 1) := by decide +kernel
theorem dX1_fiberAt_26 : decode cX1_fiberAt 26 = .ok (.ifnonnull 10, 3) := by decide +kernel
theorem dX1_fiberAt_29 : decode cX1_fiberAt 29 = .ok (.aload_n 0, 1) := by decide +kernel
theorem dX1_fiberAt_30 : decode cX1_fiberAt 30 = .ok (.getfield 31, 3) := by decide +kernel
theorem dX1_fiberAt_33 : decode cX1_fiberAt 33 = .ok (.goto 4, 3) := by decide +kernel
theorem dX1_fiberAt_36 : decode cX1_fiberAt 36 = .ok (.aload_n 2, 1) := by decide +kernel
theorem dX1_fiberAt_37 : decode cX1_fiberAt 37 = .ok (.areturn, 1) := by decide +kernel
theorem dX1_becomeLike_0 : decode cX1_becomeLike 0 = .ok (.aload_n 0, 1) := by decide +kernel
theorem dX1_becomeLike_1 : decode cX1_becomeLike 1 = .ok (.aload_n 1, 1) := by decide +kernel
theorem dX1_becomeLike_2 : decode cX1_becomeLike 2 = .ok (.getfield 42, 3) := by decide +kernel
theorem dX1_becomeLike_5 : decode cX1_becomeLike 5 = .ok (.putfield 42, 3) := by decide +kernel
theorem dX1_becomeLike_8 : decode cX1_becomeLike 8 = .ok (.aload_n 0, 1) := by decide +kernel
theorem dX1_becomeLike_9 : decode cX1_becomeLike 9 = .ok (.aload_n 1, 1) := by decide +kernel
theorem dX1_becomeLike_10 : decode cX1_becomeLike 10 = .ok (.getfield 46, 3) := by decide +kernel
theorem dX1_becomeLike_13 : decode cX1_becomeLike 13 = .ok (.putfield 46, 3) := by decide +kernel
theorem dX1_becomeLike_16 : decode cX1_becomeLike 16 = .ok (.aload_n 0, 1) := by decide +kernel
theorem dX1_becomeLike_17 : decode cX1_becomeLike 17 = .ok (.aload_n 1, 1) := by decide +kernel
theorem dX1_becomeLike_18 : decode cX1_becomeLike 18 = .ok (.getfield 49, 3) := by decide +kernel
theorem dX1_becomeLike_21 : decode cX1_becomeLike 21 = .ok (.putfield 49, 3) := by decide +kernel
theorem dX1_becomeLike_24 : decode cX1_becomeLike 24 = .ok (.aload_n 0, 1) := by decide +kernel
theorem dX1_becomeLike_25 : decode cX1_becomeLike 25 = .ok (.aload_n 1, 1) := by decide +kernel
theorem dX1_becomeLike_26 : decode cX1_becomeLike 26 = .ok (.getfield 52, 3) := by decide +kernel
theorem dX1_becomeLike_29 : decode cX1_becomeLike 29 = .ok (.putfield 52, 3) := by decide +kernel
theorem dX1_becomeLike_32 : decode cX1_becomeLike 32 = .ok (.aload_n 0, 1) := by decide +kernel
theorem dX1_becomeLike_33 : decode cX1_becomeLike 33 = .ok (.getfield 38, 3) := by decide +kernel
theorem dX1_becomeLike_36 : decode cX1_becomeLike 36 = .ok (.aload_n 1, 1) := by decide +kernel
theorem dX1_becomeLike_37 : decode cX1_becomeLike 37 = .ok (.getfield 38, 3) := by decide +kernel
theorem dX1_becomeLike_40 : decode cX1_becomeLike 40 = .ok (.invokevirtual 55, 3) := by decide +kernel
theorem dX1_becomeLike_43 : decode cX1_becomeLike 43 = .ok (.iconst 0, 1) := by decide +kernel
theorem dX1_becomeLike_44 : decode cX1_becomeLike 44 = .ok (.istore_n 2, 1) := by decide +kernel
theorem dX1_becomeLike_45 : decode cX1_becomeLike 45 = .ok (.iload_n 2, 1) := by decide +kernel
theorem dX1_becomeLike_46 : decode cX1_becomeLike 46 = .ok (.aload_n 0, 1) := by decide +kernel
theorem dX1_becomeLike_47 : decode cX1_becomeLike 47 = .ok (.getfield 42, 3) := by decide +kernel
theorem dX1_becomeLike_50 : decode cX1_becomeLike 50 = .ok (.if_icmp .ge 22, 3) := by decide +kernel
theorem dX1_becomeLike_53 : decode cX1_becomeLike 53 = .ok (.aload_n 0, 1) := by decide +kernel
theorem dX1_becomeLike_54 : decode cX1_becomeLike 54 = .ok (.iload_n 2, 1) := by decide +kernel
theorem dX1_becomeLike_55 : decode cX1_becomeLike 55 = .ok (.invokevirtual 59, 3) := by decide +kernel
theorem dX1_becomeLike_58 : decode cX1_becomeLike 58 = .ok (.aload_n 1, 1) := by decide +kernel
theorem dX1_becomeLike_59 : decode cX1_becomeLike 59 = .ok (.iload_n 2, 1) := by decide +kernel
theorem dX1_becomeLike_60 : decode cX1_becomeLike 60 = .ok (.invokevirtual 59, 3) := by decide +kernel
theorem dX1_becomeLike_63 : decode cX1_becomeLike 63 = .ok (.invokevirtual 63, 3) := by decide +kernel
theorem dX1_becomeLike_66 : decode cX1_becomeLike 66 = .ok (.iinc 2 1, 3) := by decide +kernel
theorem dX1_becomeLike_69 : decode cX1_becomeLike 69 = .ok (.goto (-24), 3) := by decide +kernel
theorem dX1_becomeLike_72 : decode cX1_becomeLike 72 = .ok (.iconst 0, 1) := by decide +kernel
theorem dX1_becomeLike_73 : decode cX1_becomeLike 73 = .ok (.istore_n 2, 1) := by decide +kernel
theorem dX1_becomeLike_74 : decode cX1_becomeLike 74 = .ok (.iload_n 2, 1) := by decide +kernel
theorem dX1_becomeLike_75 : decode cX1_becomeLike 75 = .ok (.aload_n 0, 1) := by decide +kernel
theorem dX1_becomeLike_76 : decode cX1_becomeLike 76 = .ok (.getfield 46, 3) := by decide +kernel
theorem dX1_becomeLike_79 : decode cX1_becomeLike 79 = .ok (.if_icmp .ge 22, 3) := by decide +kernel
theorem dX1_becomeLike_82 : decode cX1_becomeLike 82 = .ok (.aload_n 0, 1) := by decide +kernel
theorem dX1_becomeLike_83 : decode cX1_becomeLike 83 = .ok (.iload_n 2, 1) := by decide +kernel
theorem dX1_becomeLike_84 : decode cX1_becomeLike 84 = .ok (.invokevirtual 66, 3) := by decide +kernel
theorem dX1_becomeLike_87 : decode cX1_becomeLike 87 = .ok (.aload_n 1, 1) := by decide +kernel
theorem dX1_becomeLike_88 : decode cX1_becomeLike 88 = .ok (.iload_n 2, 1) := by decide +kernel
theorem dX1_becomeLike_89 : decode cX1_becomeLike 89 = .ok (.invokevirtual 66, 3) := by decide +kernel
theorem dX1_becomeLike_92 : decode cX1_becomeLike 92 = .ok (.invokevirtual 70, 3) := by decide +kernel
theorem dX1_becomeLike_95 : decode cX1_becomeLike 95 = .ok (.iinc 2 1, 3) := by decide +kernel
theorem dX1_becomeLike_98 : decode cX1_becomeLike 98 = .ok (.goto (-24), 3) := by decide +kernel
theorem dX1_becomeLike_101 : decode cX1_becomeLike 101 = .ok (.return_, 1) := by decide +kernel
theorem dX1_countDone_0 : decode cX1_countDone 0 = .ok (.iconst 0, 1) := by decide +kernel
theorem dX1_countDone_1 : decode cX1_countDone 1 = .ok (.istore_n 1, 1) := by decide +kernel
theorem dX1_countDone_2 : decode cX1_countDone 2 = .ok (.iconst 0, 1) := by decide +kernel
theorem dX1_countDone_3 : decode cX1_countDone 3 = .ok (.istore_n 2, 1) := by decide +kernel
theorem dX1_countDone_4 : decode cX1_countDone 4 = .ok (.iload_n 2, 1) := by decide +kernel
theorem dX1_countDone_5 : decode cX1_countDone 5 = .ok (.aload_n 0, 1) := by decide +kernel
theorem dX1_countDone_6 : decode cX1_countDone 6 = .ok (.getfield 46, 3) := by decide +kernel
theorem dX1_countDone_9 : decode cX1_countDone 9 = .ok (.if_icmp .ge 24, 3) := by decide +kernel
theorem dX1_countDone_12 : decode cX1_countDone 12 = .ok (.aload_n 0, 1) := by decide +kernel
theorem dX1_countDone_13 : decode cX1_countDone 13 = .ok (.iload_n 2, 1) := by decide +kernel
theorem dX1_countDone_14 : decode cX1_countDone 14 = .ok (.invokevirtual 66, 3) := by decide +kernel
theorem dX1_countDone_17 : decode cX1_countDone 17 = .ok (.getfield 73, 3) := by decide +kernel
theorem dX1_countDone_20 : decode cX1_countDone 20 = .ok (.iconst 5, 1) := by decide +kernel
theorem dX1_countDone_21 : decode cX1_countDone 21 = .ok (.if_icmp .ne 6, 3) := by decide +kernel
theorem dX1_countDone_24 : decode cX1_countDone 24 = .ok (.iinc 1 1, 3) := by decide +kernel
theorem dX1_countDone_27 : decode cX1_countDone 27 = .ok (.iinc 2 1, 3) := by decide +kernel
theorem dX1_countDone_30 : decode cX1_countDone 30 = .ok (.goto (-26), 3) := by decide +kernel
theorem dX1_countDone_33 : decode cX1_countDone 33 = .ok (.iload_n 1, 1) := by decide +kernel
theorem dX1_countDone_34 : decode cX1_countDone 34 = .ok (.ireturn, 1) := by decide +kernel
theorem dX1_allAreDone_0 : decode cX1_allAreDone 0 = .ok (.aload_n 0, 1) := by decide +kernel
theorem dX1_allAreDone_1 : decode cX1_allAreDone 1 = .ok (.invokevirtual 76, 3) := by decide +kernel
theorem dX1_allAreDone_4 : decode cX1_allAreDone 4 = .ok (.aload_n 0, 1) := by decide +kernel
theorem dX1_allAreDone_5 : decode cX1_allAreDone 5 = .ok (.getfield 46, 3) := by decide +kernel
theorem dX1_allAreDone_8 : decode cX1_allAreDone 8 = .ok (.if_icmp .ne 7, 3) := by decide +kernel
theorem dX1_allAreDone_11 : decode cX1_allAreDone 11 = .ok (.iconst 1, 1) := by decide +kernel
theorem dX1_allAreDone_12 : decode cX1_allAreDone 12 = .ok (.goto 4, 3) := by decide +kernel
theorem dX1_allAreDone_15 : decode cX1_allAreDone 15 = .ok (.iconst 0, 1) := by decide +kernel
theorem dX1_allAreDone_16 : decode cX1_allAreDone 16 = .ok (.ireturn, 1) := by decide +kernel
theorem dX1_hasStopped_0 : decode cX1_hasStopped 0 = .ok (.iconst 0, 1) := by decide +kernel
theorem dX1_hasStopped_1 : decode cX1_hasStopped 1 = .ok (.istore_n 1, 1) := by decide +kernel
theorem dX1_hasStopped_2 : decode cX1_hasStopped 2 = .ok (.iload_n 1, 1) := by decide +kernel
theorem dX1_hasStopped_3 : decode cX1_hasStopped 3 = .ok (.aload_n 0, 1) := by decide +kernel
theorem dX1_hasStopped_4 : decode cX1_hasStopped 4 = .ok (.getfield 46, 3) := by decide +kernel
theorem dX1_hasStopped_7 : decode cX1_hasStopped 7 = .ok (.if_icmp .ge 29, 3) := by decide +kernel
theorem dX1_hasStopped_10 : decode cX1_hasStopped 10 = .ok (.aload_n 0, 1) := by decide +kernel
theorem dX1_hasStopped_11 : decode cX1_hasStopped 11 = .ok (.iload_n 1, 1) := by decide +kernel
theorem dX1_hasStopped_12 : decode cX1_hasStopped 12 = .ok (.invokevirtual 66, 3) := by decide +kernel
theorem dX1_hasStopped_15 : decode cX1_hasStopped 15 = .ok (.getfield 73, 3) := by decide +kernel
theorem dX1_hasStopped_18 : decode cX1_hasStopped 18 = .ok (.istore_n 2, 1) := by decide +kernel
theorem dX1_hasStopped_19 : decode cX1_hasStopped 19 = .ok (.iload_n 2, 1) := by decide +kernel
theorem dX1_hasStopped_20 : decode cX1_hasStopped 20 = .ok (.ifCond .eq 8, 3) := by decide +kernel
theorem dX1_hasStopped_23 : decode cX1_hasStopped 23 = .ok (.iload_n 2, 1) := by decide +kernel
theorem dX1_hasStopped_24 : decode cX1_hasStopped 24 = .ok (.iconst 3, 1) := by decide +kernel
theorem dX1_hasStopped_25 : decode cX1_hasStopped 25 = .ok (.if_icmp .ne 5, 3) := by decide +kernel
theorem dX1_hasStopped_28 : decode cX1_hasStopped 28 = .ok (.iconst 0, 1) := by decide +kernel
theorem dX1_hasStopped_29 : decode cX1_hasStopped 29 = .ok (.ireturn, 1) := by decide +kernel
theorem dX1_hasStopped_30 : decode cX1_hasStopped 30 = .ok (.iinc 1 1, 3) := by decide +kernel
theorem dX1_hasStopped_33 : decode cX1_hasStopped 33 = .ok (.goto (-31), 3) := by decide +kernel
theorem dX1_hasStopped_36 : decode cX1_hasStopped 36 = .ok (.iconst 1, 1) := by decide +kernel
theorem dX1_hasStopped_37 : decode cX1_hasStopped 37 = .ok (.ireturn, 1) := by decide +kernel
theorem dX1_letTurnGoBy_0 : decode cX1_letTurnGoBy 0 = .ok (.aload_n 0, 1) := by decide +kernel
theorem dX1_letTurnGoBy_1 : decode cX1_letTurnGoBy 1 = .ok (.invokevirtual 80, 3) := by decide +kernel
theorem dX1_letTurnGoBy_4 : decode cX1_letTurnGoBy 4 = .ok (.aload_n 0, 1) := by decide +kernel
theorem dX1_letTurnGoBy_5 : decode cX1_letTurnGoBy 5 = .ok (.getfield 38, 3) := by decide +kernel
theorem dX1_letTurnGoBy_8 : decode cX1_letTurnGoBy 8 = .ok (.getfield 83, 3) := by decide +kernel
theorem dX1_letTurnGoBy_11 : decode cX1_letTurnGoBy 11 = .ok (.ifCond .gt 16, 3) := by decide +kernel
theorem dX1_letTurnGoBy_14 : decode cX1_letTurnGoBy 14 = .ok (.aload_n 0, 1) := by decide +kernel
theorem dX1_letTurnGoBy_15 : decode cX1_letTurnGoBy 15 = .ok (.dup, 1) := by decide +kernel
theorem dX1_letTurnGoBy_16 : decode cX1_letTurnGoBy 16 = .ok (.getfield 52, 3) := by decide +kernel
theorem dX1_letTurnGoBy_19 : decode cX1_letTurnGoBy 19 = .ok (.iconst 1, 1) := by decide +kernel
theorem dX1_letTurnGoBy_20 : decode cX1_letTurnGoBy 20 = .ok (.iadd, 1) := by decide +kernel
theorem dX1_letTurnGoBy_21 : decode cX1_letTurnGoBy 21 = .ok (.putfield 52, 3) := by decide +kernel
theorem dX1_letTurnGoBy_24 : decode cX1_letTurnGoBy 24 = .ok (.goto 62, 3) := by decide +kernel
theorem dX1_letTurnGoBy_27 : decode cX1_letTurnGoBy 27 = .ok (.aload_n 0, 1) := by decide +kernel
theorem dX1_letTurnGoBy_28 : decode cX1_letTurnGoBy 28 = .ok (.aload_n 0, 1) := by decide +kernel
theorem dX1_letTurnGoBy_29 : decode cX1_letTurnGoBy 29 = .ok (.getfield 38, 3) := by decide +kernel
theorem dX1_letTurnGoBy_32 : decode cX1_letTurnGoBy 32 = .ok (.invokevirtual 86, 3) := by decide +kernel
theorem dX1_letTurnGoBy_35 : decode cX1_letTurnGoBy 35 = .ok (.invokevirtual 66, 3) := by decide +kernel
theorem dX1_letTurnGoBy_38 : decode cX1_letTurnGoBy 38 = .ok (.astore_n 1, 1) := by decide +kernel
theorem dX1_letTurnGoBy_39 : decode cX1_letTurnGoBy 39 = .ok (.aload_n 1, 1) := by decide +kernel
theorem dX1_letTurnGoBy_40 : decode cX1_letTurnGoBy 40 = .ok (.dup, 1) := by decide +kernel
theorem dX1_letTurnGoBy_41 : decode cX1_letTurnGoBy 41 = .ok (.getfield 89, 3) := by decide +kernel
theorem dX1_letTurnGoBy_44 : decode cX1_letTurnGoBy 44 = .ok (.iconst 1, 1) := by decide +kernel
theorem dX1_letTurnGoBy_45 : decode cX1_letTurnGoBy 45 = .ok (.iadd, 1) := by decide +kernel
theorem dX1_letTurnGoBy_46 : decode cX1_letTurnGoBy 46 = .ok (.putfield 89, 3) := by decide +kernel
theorem dX1_letTurnGoBy_49 : decode cX1_letTurnGoBy 49 = .ok (.iconst 1, 1) := by decide +kernel
theorem dX1_letTurnGoBy_50 : decode cX1_letTurnGoBy 50 = .ok (.istore_n 2, 1) := by decide +kernel
theorem dX1_letTurnGoBy_51 : decode cX1_letTurnGoBy 51 = .ok (.iconst 0, 1) := by decide +kernel
theorem dX1_letTurnGoBy_52 : decode cX1_letTurnGoBy 52 = .ok (.istore_n 3, 1) := by decide +kernel
theorem dX1_letTurnGoBy_53 : decode cX1_letTurnGoBy 53 = .ok (.iload_n 3, 1) := by decide +kernel
theorem dX1_letTurnGoBy_54 : decode cX1_letTurnGoBy 54 = .ok (.iconst 4, 1) := by decide +kernel
theorem dX1_letTurnGoBy_55 : decode cX1_letTurnGoBy 55 = .ok (.if_icmp .ge 26, 3) := by decide +kernel
theorem dX1_letTurnGoBy_58 : decode cX1_letTurnGoBy 58 = .ok (.iload_n 2, 1) := by decide +kernel
theorem dX1_letTurnGoBy_59 : decode cX1_letTurnGoBy 59 = .ok (.ifCond .eq 22, 3) := by decide +kernel
theorem dX1_letTurnGoBy_62 : decode cX1_letTurnGoBy 62 = .ok (.aload_n 1, 1) := by decide +kernel
theorem dX1_letTurnGoBy_63 : decode cX1_letTurnGoBy 63 = .ok (.invokevirtual 92, 3) := by decide +kernel
theorem dX1_letTurnGoBy_66 : decode cX1_letTurnGoBy 66 = .ok (.ifCond .eq 15, 3) := by decide +kernel
theorem dX1_letTurnGoBy_69 : decode cX1_letTurnGoBy 69 = .ok (.aload_n 0, 1) := by decide +kernel
theorem dX1_letTurnGoBy_70 : decode cX1_letTurnGoBy 70 = .ok (.aload_n 1, 1) := by decide +kernel
theorem dX1_letTurnGoBy_71 : decode cX1_letTurnGoBy 71 = .ok (.invokevirtual 96, 3) := by decide +kernel
theorem dX1_letTurnGoBy_74 : decode cX1_letTurnGoBy 74 = .ok (.istore_n 2, 1) := by decide +kernel
theorem dX1_letTurnGoBy_75 : decode cX1_letTurnGoBy 75 = .ok (.iinc 3 1, 3) := by decide +kernel
theorem dX1_letTurnGoBy_78 : decode cX1_letTurnGoBy 78 = .ok (.goto (-25), 3) := by decide +kernel
theorem dX1_letTurnGoBy_81 : decode cX1_letTurnGoBy 81 = .ok (.aload_n 0, 1) := by decide +kernel
theorem dX1_letTurnGoBy_82 : decode cX1_letTurnGoBy 82 = .ok (.aload_n 1, 1) := by decide +kernel
theorem dX1_letTurnGoBy_83 : decode cX1_letTurnGoBy 83 = .ok (.invokevirtual 100, 3) := by decide +kernel
theorem dX1_letTurnGoBy_86 : decode cX1_letTurnGoBy 86 = .ok (.aload_n 0, 1) := by decide +kernel
theorem dX1_letTurnGoBy_87 : decode cX1_letTurnGoBy 87 = .ok (.dup, 1) := by decide +kernel
theorem dX1_letTurnGoBy_88 : decode cX1_letTurnGoBy 88 = .ok (.getfield 49, 3) := by decide +kernel
theorem dX1_letTurnGoBy_91 : decode cX1_letTurnGoBy 91 = .ok (.iconst 1, 1) := by decide +kernel
theorem dX1_letTurnGoBy_92 : decode cX1_letTurnGoBy 92 = .ok (.iadd, 1) := by decide +kernel
theorem dX1_letTurnGoBy_93 : decode cX1_letTurnGoBy 93 = .ok (.putfield 49, 3) := by decide +kernel
theorem dX1_letTurnGoBy_96 : decode cX1_letTurnGoBy 96 = .ok (.return_, 1) := by decide +kernel
theorem dX1_makeReady_0 : decode cX1_makeReady 0 = .ok (.aload_n 1, 1) := by decide +kernel
theorem dX1_makeReady_1 : decode cX1_makeReady 1 = .ok (.iconst 0, 1) := by decide +kernel
theorem dX1_makeReady_2 : decode cX1_makeReady 2 = .ok (.putfield 73, 3) := by decide +kernel
theorem dX1_makeReady_5 : decode cX1_makeReady 5 = .ok (.aload_n 0, 1) := by decide +kernel
theorem dX1_makeReady_6 : decode cX1_makeReady 6 = .ok (.getfield 38, 3) := by decide +kernel
theorem dX1_makeReady_9 : decode cX1_makeReady 9 = .ok (.aload_n 1, 1) := by decide +kernel
theorem dX1_makeReady_10 : decode cX1_makeReady 10 = .ok (.getfield 103, 3) := by decide +kernel
theorem dX1_makeReady_13 : decode cX1_makeReady 13 = .ok (.invokevirtual 106, 3) := by decide +kernel
theorem dX1_makeReady_16 : decode cX1_makeReady 16 = .ok (.return_, 1) := by decide +kernel
theorem dX1_wakeFirst_0 : decode cX1_wakeFirst 0 = .ok (.aload_n 1, 1) := by decide +kernel
theorem dX1_wakeFirst_1 : decode cX1_wakeFirst 1 = .ok (.getfield 83, 3) := by decide +kernel
theorem dX1_wakeFirst_4 : decode cX1_wakeFirst 4 = .ok (.ifCond .le 28, 3) := by decide +kernel
theorem dX1_wakeFirst_7 : decode cX1_wakeFirst 7 = .ok (.aload_n 0, 1) := by decide +kernel
theorem dX1_wakeFirst_8 : decode cX1_wakeFirst 8 = .ok (.aload_n 1, 1) := by decide +kernel
theorem dX1_wakeFirst_9 : decode cX1_wakeFirst 9 = .ok (.invokevirtual 86, 3) := by decide +kernel
theorem dX1_wakeFirst_12 : decode cX1_wakeFirst 12 = .ok (.invokevirtual 66, 3) := by decide +kernel
theorem dX1_wakeFirst_15 : decode cX1_wakeFirst 15 = .ok (.astore_n 2, 1) := by decide +kernel
theorem dX1_wakeFirst_16 : decode cX1_wakeFirst 16 = .ok (.aload_n 2, 1) := by decide +kernel
theorem dX1_wakeFirst_17 : decode cX1_wakeFirst 17 = .ok (.iconst 0, 1) := by decide +kernel
theorem dX1_wakeFirst_18 : decode cX1_wakeFirst 18 = .ok (.putfield 73, 3) := by decide +kernel
theorem dX1_wakeFirst_21 : decode cX1_wakeFirst 21 = .ok (.aload_n 0, 1) := by decide +kernel
theorem dX1_wakeFirst_22 : decode cX1_wakeFirst 22 = .ok (.getfield 38, 3) := by decide +kernel
theorem dX1_wakeFirst_25 : decode cX1_wakeFirst 25 = .ok (.aload_n 2, 1) := by decide +kernel
theorem dX1_wakeFirst_26 : decode cX1_wakeFirst 26 = .ok (.getfield 103, 3) := by decide +kernel
theorem dX1_wakeFirst_29 : decode cX1_wakeFirst 29 = .ok (.invokevirtual 106, 3) := by decide +kernel
theorem dX1_wakeFirst_32 : decode cX1_wakeFirst 32 = .ok (.return_, 1) := by decide +kernel
theorem dX1_wakeSleepers_0 : decode cX1_wakeSleepers 0 = .ok (.iconst 0, 1) := by decide +kernel
theorem dX1_wakeSleepers_1 : decode cX1_wakeSleepers 1 = .ok (.istore_n 1, 1) := by decide +kernel
theorem dX1_wakeSleepers_2 : decode cX1_wakeSleepers 2 = .ok (.iload_n 1, 1) := by decide +kernel
theorem dX1_wakeSleepers_3 : decode cX1_wakeSleepers 3 = .ok (.aload_n 0, 1) := by decide +kernel
theorem dX1_wakeSleepers_4 : decode cX1_wakeSleepers 4 = .ok (.getfield 46, 3) := by decide +kernel
theorem dX1_wakeSleepers_7 : decode cX1_wakeSleepers 7 = .ok (.if_icmp .ge 39, 3) := by decide +kernel
theorem dX1_wakeSleepers_10 : decode cX1_wakeSleepers 10 = .ok (.aload_n 0, 1) := by decide +kernel
theorem dX1_wakeSleepers_11 : decode cX1_wakeSleepers 11 = .ok (.iload_n 1, 1) := by decide +kernel
theorem dX1_wakeSleepers_12 : decode cX1_wakeSleepers 12 = .ok (.invokevirtual 66, 3) := by decide +kernel
theorem dX1_wakeSleepers_15 : decode cX1_wakeSleepers 15 = .ok (.astore_n 2, 1) := by decide +kernel
theorem dX1_wakeSleepers_16 : decode cX1_wakeSleepers 16 = .ok (.aload_n 2, 1) := by decide +kernel
theorem dX1_wakeSleepers_17 : decode cX1_wakeSleepers 17 = .ok (.getfield 73, 3) := by decide +kernel
theorem dX1_wakeSleepers_20 : decode cX1_wakeSleepers 20 = .ok (.iconst 3, 1) := by decide +kernel
theorem dX1_wakeSleepers_21 : decode cX1_wakeSleepers 21 = .ok (.if_icmp .ne 19, 3) := by decide +kernel
theorem dX1_wakeSleepers_24 : decode cX1_wakeSleepers 24 = .ok (.aload_n 2, 1) := by decide +kernel
theorem dX1_wakeSleepers_25 : decode cX1_wakeSleepers 25 = .ok (.getfield 109, 3) := by decide +kernel
theorem dX1_wakeSleepers_28 : decode cX1_wakeSleepers 28 = .ok (.aload_n 0, 1) := by decide +kernel
theorem dX1_wakeSleepers_29 : decode cX1_wakeSleepers 29 = .ok (.getfield 49, 3) := by decide +kernel
theorem dX1_wakeSleepers_32 : decode cX1_wakeSleepers 32 = .ok (.if_icmp .ne 8, 3) := by decide +kernel
theorem dX1_wakeSleepers_35 : decode cX1_wakeSleepers 35 = .ok (.aload_n 0, 1) := by decide +kernel
theorem dX1_wakeSleepers_36 : decode cX1_wakeSleepers 36 = .ok (.aload_n 2, 1) := by decide +kernel
theorem dX1_wakeSleepers_37 : decode cX1_wakeSleepers 37 = .ok (.invokevirtual 112, 3) := by decide +kernel
theorem dX1_wakeSleepers_40 : decode cX1_wakeSleepers 40 = .ok (.iinc 1 1, 3) := by decide +kernel
theorem dX1_wakeSleepers_43 : decode cX1_wakeSleepers 43 = .ok (.goto (-41), 3) := by decide +kernel
theorem dX1_wakeSleepers_46 : decode cX1_wakeSleepers 46 = .ok (.return_, 1) := by decide +kernel
theorem dX1_doStep_0 : decode cX1_doStep 0 = .ok (.aload_n 1, 1) := by decide +kernel
theorem dX1_doStep_1 : decode cX1_doStep 1 = .ok (.aload_n 1, 1) := by decide +kernel
theorem dX1_doStep_2 : decode cX1_doStep 2 = .ok (.getfield 115, 3) := by decide +kernel
theorem dX1_doStep_5 : decode cX1_doStep 5 = .ok (.invokevirtual 118, 3) := by decide +kernel
theorem dX1_doStep_8 : decode cX1_doStep 8 = .ok (.astore_n 2, 1) := by decide +kernel
theorem dX1_doStep_9 : decode cX1_doStep 9 = .ok (.aload_n 2, 1) := by decide +kernel
theorem dX1_doStep_10 : decode cX1_doStep 10 = .ok (.getfield 122, 3) := by decide +kernel
theorem dX1_doStep_13 : decode cX1_doStep 13 = .ok (.tableswitch 132 0 6 #[43, 75, 87, 132, 112, 124, 59], 43) := by decide +kernel
theorem dX1_doStep_56 : decode cX1_doStep 56 = .ok (.aload_n 0, 1) := by decide +kernel
theorem dX1_doStep_57 : decode cX1_doStep 57 = .ok (.aload_n 1, 1) := by decide +kernel
theorem dX1_doStep_58 : decode cX1_doStep 58 = .ok (.aload_n 2, 1) := by decide +kernel
theorem dX1_doStep_59 : decode cX1_doStep 59 = .ok (.getfield 127, 3) := by decide +kernel
theorem dX1_doStep_62 : decode cX1_doStep 62 = .ok (.aload_n 2, 1) := by decide +kernel
theorem dX1_doStep_63 : decode cX1_doStep 63 = .ok (.getfield 130, 3) := by decide +kernel
theorem dX1_doStep_66 : decode cX1_doStep 66 = .ok (.invokevirtual 133, 3) := by decide +kernel
theorem dX1_doStep_69 : decode cX1_doStep 69 = .ok (.goto 82, 3) := by decide +kernel
theorem dX1_doStep_72 : decode cX1_doStep 72 = .ok (.aload_n 0, 1) := by decide +kernel
theorem dX1_doStep_73 : decode cX1_doStep 73 = .ok (.aload_n 1, 1) := by decide +kernel
theorem dX1_doStep_74 : decode cX1_doStep 74 = .ok (.aload_n 2, 1) := by decide +kernel
theorem dX1_doStep_75 : decode cX1_doStep 75 = .ok (.getfield 127, 3) := by decide +kernel
theorem dX1_doStep_78 : decode cX1_doStep 78 = .ok (.aload_n 1, 1) := by decide +kernel
theorem dX1_doStep_79 : decode cX1_doStep 79 = .ok (.getfield 137, 3) := by decide +kernel
theorem dX1_doStep_82 : decode cX1_doStep 82 = .ok (.invokevirtual 133, 3) := by decide +kernel
theorem dX1_doStep_85 : decode cX1_doStep 85 = .ok (.goto 66, 3) := by decide +kernel
theorem dX1_doStep_88 : decode cX1_doStep 88 = .ok (.aload_n 0, 1) := by decide +kernel
theorem dX1_doStep_89 : decode cX1_doStep 89 = .ok (.aload_n 1, 1) := by decide +kernel
theorem dX1_doStep_90 : decode cX1_doStep 90 = .ok (.aload_n 2, 1) := by decide +kernel
theorem dX1_doStep_91 : decode cX1_doStep 91 = .ok (.getfield 127, 3) := by decide +kernel
theorem dX1_doStep_94 : decode cX1_doStep 94 = .ok (.invokevirtual 140, 3) := by decide +kernel
theorem dX1_doStep_97 : decode cX1_doStep 97 = .ok (.goto 54, 3) := by decide +kernel
theorem dX1_doStep_100 : decode cX1_doStep 100 = .ok (.aload_n 1, 1) := by decide +kernel
theorem dX1_doStep_101 : decode cX1_doStep 101 = .ok (.aload_n 0, 1) := by decide +kernel
theorem dX1_doStep_102 : decode cX1_doStep 102 = .ok (.getfield 49, 3) := by decide +kernel
theorem dX1_doStep_105 : decode cX1_doStep 105 = .ok (.aload_n 2, 1) := by decide +kernel
theorem dX1_doStep_106 : decode cX1_doStep 106 = .ok (.getfield 127, 3) := by decide +kernel
theorem dX1_doStep_109 : decode cX1_doStep 109 = .ok (.iadd, 1) := by decide +kernel
theorem dX1_doStep_110 : decode cX1_doStep 110 = .ok (.putfield 109, 3) := by decide +kernel
theorem dX1_doStep_113 : decode cX1_doStep 113 = .ok (.aload_n 1, 1) := by decide +kernel
theorem dX1_doStep_114 : decode cX1_doStep 114 = .ok (.iconst 3, 1) := by decide +kernel
theorem dX1_doStep_115 : decode cX1_doStep 115 = .ok (.putfield 73, 3) := by decide +kernel
theorem dX1_doStep_118 : decode cX1_doStep 118 = .ok (.aload_n 1, 1) := by decide +kernel
theorem dX1_doStep_119 : decode cX1_doStep 119 = .ok (.invokevirtual 144, 3) := by decide +kernel
theorem dX1_doStep_122 : decode cX1_doStep 122 = .ok (.goto 29, 3) := by decide +kernel
theorem dX1_doStep_125 : decode cX1_doStep 125 = .ok (.aload_n 0, 1) := by decide +kernel
theorem dX1_doStep_126 : decode cX1_doStep 126 = .ok (.aload_n 1, 1) := by decide +kernel
theorem dX1_doStep_127 : decode cX1_doStep 127 = .ok (.aload_n 2, 1) := by decide +kernel
theorem dX1_doStep_128 : decode cX1_doStep 128 = .ok (.getfield 127, 3) := by decide +kernel
theorem dX1_doStep_131 : decode cX1_doStep 131 = .ok (.invokevirtual 147, 3) := by decide +kernel
theorem dX1_doStep_134 : decode cX1_doStep 134 = .ok (.goto 17, 3) := by decide +kernel
theorem dX1_doStep_137 : decode cX1_doStep 137 = .ok (.aload_n 1, 1) := by decide +kernel
theorem dX1_doStep_138 : decode cX1_doStep 138 = .ok (.aload_n 2, 1) := by decide +kernel
theorem dX1_doStep_139 : decode cX1_doStep 139 = .ok (.invokevirtual 150, 3) := by decide +kernel
theorem dX1_doStep_142 : decode cX1_doStep 142 = .ok (.goto 9, 3) := by decide +kernel
theorem dX1_doStep_145 : decode cX1_doStep 145 = .ok (.aload_n 1, 1) := by decide +kernel
theorem dX1_doStep_146 : decode cX1_doStep 146 = .ok (.invokevirtual 144, 3) := by decide +kernel
theorem dX1_doStep_149 : decode cX1_doStep 149 = .ok (.iconst 0, 1) := by decide +kernel
theorem dX1_doStep_150 : decode cX1_doStep 150 = .ok (.ireturn, 1) := by decide +kernel
theorem dX1_doStep_151 : decode cX1_doStep 151 = .ok (.aload_n 1, 1) := by decide +kernel
theorem dX1_doStep_152 : decode cX1_doStep 152 = .ok (.getfield 73, 3) := by decide +kernel
theorem dX1_doStep_155 : decode cX1_doStep 155 = .ok (.ifCond .ne 7, 3) := by decide +kernel
theorem dX1_doStep_158 : decode cX1_doStep 158 = .ok (.iconst 1, 1) := by decide +kernel
theorem dX1_doStep_159 : decode cX1_doStep 159 = .ok (.goto 4, 3) := by decide +kernel
theorem dX1_doStep_162 : decode cX1_doStep 162 = .ok (.iconst 0, 1) := by decide +kernel
theorem dX1_doStep_163 : decode cX1_doStep 163 = .ok (.ireturn, 1) := by decide +kernel
theorem dX1_send_0 : decode cX1_send 0 = .ok (.aload_n 0, 1) := by decide +kernel
theorem dX1_send_1 : decode cX1_send 1 = .ok (.iload_n 2, 1) := by decide +kernel
theorem dX1_send_2 : decode cX1_send 2 = .ok (.invokevirtual 59, 3) := by decide +kernel
theorem dX1_send_5 : decode cX1_send 5 = .ok (.astore 4, 2) := by decide +kernel
theorem dX1_send_7 : decode cX1_send 7 = .ok (.aload 4, 2) := by decide +kernel
theorem dX1_send_9 : decode cX1_send 9 = .ok (.invokevirtual 154, 3) := by decide +kernel
theorem dX1_send_12 : decode cX1_send 12 = .ok (.ifCond .eq 28, 3) := by decide +kernel
theorem dX1_send_15 : decode cX1_send 15 = .ok (.aload 4, 2) := by decide +kernel
theorem dX1_send_17 : decode cX1_send 17 = .ok (.getfield 157, 3) := by decide +kernel
theorem dX1_send_20 : decode cX1_send 20 = .ok (.iload_n 3, 1) := by decide +kernel
theorem dX1_send_21 : decode cX1_send 21 = .ok (.invokevirtual 106, 3) := by decide +kernel
theorem dX1_send_24 : decode cX1_send 24 = .ok (.aload_n 0, 1) := by decide +kernel
theorem dX1_send_25 : decode cX1_send 25 = .ok (.aload 4, 2) := by decide +kernel
theorem dX1_send_27 : decode cX1_send 27 = .ok (.getfield 160, 3) := by decide +kernel
theorem dX1_send_30 : decode cX1_send 30 = .ok (.invokevirtual 163, 3) := by decide +kernel
theorem dX1_send_33 : decode cX1_send 33 = .ok (.aload_n 1, 1) := by decide +kernel
theorem dX1_send_34 : decode cX1_send 34 = .ok (.invokevirtual 144, 3) := by decide +kernel
theorem dX1_send_37 : decode cX1_send 37 = .ok (.goto 20, 3) := by decide +kernel
theorem dX1_send_40 : decode cX1_send 40 = .ok (.aload_n 1, 1) := by decide +kernel
theorem dX1_send_41 : decode cX1_send 41 = .ok (.iconst 1, 1) := by decide +kernel
theorem dX1_send_42 : decode cX1_send 42 = .ok (.putfield 73, 3) := by decide +kernel
theorem dX1_send_45 : decode cX1_send 45 = .ok (.aload 4, 2) := by decide +kernel
theorem dX1_send_47 : decode cX1_send 47 = .ok (.getfield 166, 3) := by decide +kernel
theorem dX1_send_50 : decode cX1_send 50 = .ok (.aload_n 1, 1) := by decide +kernel
theorem dX1_send_51 : decode cX1_send 51 = .ok (.getfield 103, 3) := by decide +kernel
theorem dX1_send_54 : decode cX1_send 54 = .ok (.invokevirtual 106, 3) := by decide +kernel
theorem dX1_send_57 : decode cX1_send 57 = .ok (.return_, 1) := by decide +kernel
theorem dX1_take_0 : decode cX1_take 0 = .ok (.aload_n 0, 1) := by decide +kernel
theorem dX1_take_1 : decode cX1_take 1 = .ok (.iload_n 2, 1) := by decide +kernel
theorem dX1_take_2 : decode cX1_take 2 = .ok (.invokevirtual 59, 3) := by decide +kernel
theorem dX1_take_5 : decode cX1_take 5 = .ok (.astore_n 3, 1) := by decide +kernel
theorem dX1_take_6 : decode cX1_take 6 = .ok (.aload_n 3, 1) := by decide +kernel
theorem dX1_take_7 : decode cX1_take 7 = .ok (.getfield 157, 3) := by decide +kernel
theorem dX1_take_10 : decode cX1_take 10 = .ok (.getfield 83, 3) := by decide +kernel
theorem dX1_take_13 : decode cX1_take 13 = .ok (.ifCond .le 34, 3) := by decide +kernel
theorem dX1_take_16 : decode cX1_take 16 = .ok (.aload_n 1, 1) := by decide +kernel
theorem dX1_take_17 : decode cX1_take 17 = .ok (.dup, 1) := by decide +kernel
theorem dX1_take_18 : decode cX1_take 18 = .ok (.getfield 137, 3) := by decide +kernel
theorem dX1_take_21 : decode cX1_take 21 = .ok (.aload_n 3, 1) := by decide +kernel
theorem dX1_take_22 : decode cX1_take 22 = .ok (.getfield 157, 3) := by decide +kernel
theorem dX1_take_25 : decode cX1_take 25 = .ok (.invokevirtual 86, 3) := by decide +kernel
theorem dX1_take_28 : decode cX1_take 28 = .ok (.iadd, 1) := by decide +kernel
theorem dX1_take_29 : decode cX1_take 29 = .ok (.putfield 137, 3) := by decide +kernel
theorem dX1_take_32 : decode cX1_take 32 = .ok (.aload_n 0, 1) := by decide +kernel
theorem dX1_take_33 : decode cX1_take 33 = .ok (.aload_n 3, 1) := by decide +kernel
theorem dX1_take_34 : decode cX1_take 34 = .ok (.getfield 166, 3) := by decide +kernel
theorem dX1_take_37 : decode cX1_take 37 = .ok (.invokevirtual 163, 3) := by decide +kernel
theorem dX1_take_40 : decode cX1_take 40 = .ok (.aload_n 1, 1) := by decide +kernel
theorem dX1_take_41 : decode cX1_take 41 = .ok (.invokevirtual 144, 3) := by decide +kernel
theorem dX1_take_44 : decode cX1_take 44 = .ok (.goto 19, 3) := by decide +kernel
theorem dX1_take_47 : decode cX1_take 47 = .ok (.aload_n 1, 1) := by decide +kernel
theorem dX1_take_48 : decode cX1_take 48 = .ok (.iconst 2, 1) := by decide +kernel
theorem dX1_take_49 : decode cX1_take 49 = .ok (.putfield 73, 3) := by decide +kernel
theorem dX1_take_52 : decode cX1_take 52 = .ok (.aload_n 3, 1) := by decide +kernel
theorem dX1_take_53 : decode cX1_take 53 = .ok (.getfield 160, 3) := by decide +kernel
theorem dX1_take_56 : decode cX1_take 56 = .ok (.aload_n 1, 1) := by decide +kernel
theorem dX1_take_57 : decode cX1_take 57 = .ok (.getfield 103, 3) := by decide +kernel
theorem dX1_take_60 : decode cX1_take 60 = .ok (.invokevirtual 106, 3) := by decide +kernel
theorem dX1_take_63 : decode cX1_take 63 = .ok (.return_, 1) := by decide +kernel
theorem dX1_waitFor_0 : decode cX1_waitFor 0 = .ok (.aload_n 0, 1) := by decide +kernel
theorem dX1_waitFor_1 : decode cX1_waitFor 1 = .ok (.iload_n 2, 1) := by decide +kernel
theorem dX1_waitFor_2 : decode cX1_waitFor 2 = .ok (.invokevirtual 66, 3) := by decide +kernel
theorem dX1_waitFor_5 : decode cX1_waitFor 5 = .ok (.getfield 73, 3) := by decide +kernel
theorem dX1_waitFor_8 : decode cX1_waitFor 8 = .ok (.iconst 5, 1) := by decide +kernel
theorem dX1_waitFor_9 : decode cX1_waitFor 9 = .ok (.if_icmp .ne 10, 3) := by decide +kernel
theorem dX1_waitFor_12 : decode cX1_waitFor 12 = .ok (.aload_n 1, 1) := by decide +kernel
theorem dX1_waitFor_13 : decode cX1_waitFor 13 = .ok (.invokevirtual 144, 3) := by decide +kernel
theorem dX1_waitFor_16 : decode cX1_waitFor 16 = .ok (.goto 8, 3) := by decide +kernel
theorem dX1_waitFor_19 : decode cX1_waitFor 19 = .ok (.aload_n 1, 1) := by decide +kernel
theorem dX1_waitFor_20 : decode cX1_waitFor 20 = .ok (.iconst 4, 1) := by decide +kernel
theorem dX1_waitFor_21 : decode cX1_waitFor 21 = .ok (.putfield 73, 3) := by decide +kernel
theorem dX1_waitFor_24 : decode cX1_waitFor 24 = .ok (.return_, 1) := by decide +kernel
theorem dX1_endTurn_0 : decode cX1_endTurn 0 = .ok (.aload_n 1, 1) := by decide +kernel
theorem dX1_endTurn_1 : decode cX1_endTurn 1 = .ok (.getfield 73, 3) := by decide +kernel
theorem dX1_endTurn_4 : decode cX1_endTurn 4 = .ok (.ifCond .eq 4, 3) := by decide +kernel
theorem dX1_endTurn_7 : decode cX1_endTurn 7 = .ok (.return_, 1) := by decide +kernel
theorem dX1_endTurn_8 : decode cX1_endTurn 8 = .ok (.aload_n 1, 1) := by decide +kernel
theorem dX1_endTurn_9 : decode cX1_endTurn 9 = .ok (.invokevirtual 92, 3) := by decide +kernel
theorem dX1_endTurn_12 : decode cX1_endTurn 12 = .ok (.ifCond .eq 15, 3) := by decide +kernel
theorem dX1_endTurn_15 : decode cX1_endTurn 15 = .ok (.aload_n 0, 1) := by decide +kernel
theorem dX1_endTurn_16 : decode cX1_endTurn 16 = .ok (.getfield 38, 3) := by decide +kernel
theorem dX1_endTurn_19 : decode cX1_endTurn 19 = .ok (.aload_n 1, 1) := by decide +kernel
theorem dX1_endTurn_20 : decode cX1_endTurn 20 = .ok (.getfield 103, 3) := by decide +kernel
theorem dX1_endTurn_23 : decode cX1_endTurn 23 = .ok (.invokevirtual 106, 3) := by decide +kernel
theorem dX1_endTurn_26 : decode cX1_endTurn 26 = .ok (.return_, 1) := by decide +kernel
theorem dX1_endTurn_27 : decode cX1_endTurn 27 = .ok (.aload_n 1, 1) := by decide +kernel
theorem dX1_endTurn_28 : decode cX1_endTurn 28 = .ok (.iconst 5, 1) := by decide +kernel
theorem dX1_endTurn_29 : decode cX1_endTurn 29 = .ok (.putfield 73, 3) := by decide +kernel
theorem dX1_endTurn_32 : decode cX1_endTurn 32 = .ok (.iconst 0, 1) := by decide +kernel
theorem dX1_endTurn_33 : decode cX1_endTurn 33 = .ok (.istore_n 2, 1) := by decide +kernel
theorem dX1_endTurn_34 : decode cX1_endTurn 34 = .ok (.iload_n 2, 1) := by decide +kernel
theorem dX1_endTurn_35 : decode cX1_endTurn 35 = .ok (.aload_n 0, 1) := by decide +kernel
theorem dX1_endTurn_36 : decode cX1_endTurn 36 = .ok (.getfield 46, 3) := by decide +kernel
theorem dX1_endTurn_39 : decode cX1_endTurn 39 = .ok (.if_icmp .ge 46, 3) := by decide +kernel
theorem dX1_endTurn_42 : decode cX1_endTurn 42 = .ok (.aload_n 0, 1) := by decide +kernel
theorem dX1_endTurn_43 : decode cX1_endTurn 43 = .ok (.iload_n 2, 1) := by decide +kernel
theorem dX1_endTurn_44 : decode cX1_endTurn 44 = .ok (.invokevirtual 66, 3) := by decide +kernel
theorem dX1_endTurn_47 : decode cX1_endTurn 47 = .ok (.astore_n 3, 1) := by decide +kernel
theorem dX1_endTurn_48 : decode cX1_endTurn 48 = .ok (.aload_n 3, 1) := by decide +kernel
theorem dX1_endTurn_49 : decode cX1_endTurn 49 = .ok (.getfield 73, 3) := by decide +kernel
theorem dX1_endTurn_52 : decode cX1_endTurn 52 = .ok (.iconst 4, 1) := by decide +kernel
theorem dX1_endTurn_53 : decode cX1_endTurn 53 = .ok (.if_icmp .ne 26, 3) := by decide +kernel
theorem dX1_endTurn_56 : decode cX1_endTurn 56 = .ok (.aload_n 3, 1) := by decide +kernel
theorem dX1_endTurn_57 : decode cX1_endTurn 57 = .ok (.aload_n 3, 1) := by decide +kernel
theorem dX1_endTurn_58 : decode cX1_endTurn 58 = .ok (.getfield 115, 3) := by decide +kernel
theorem dX1_endTurn_61 : decode cX1_endTurn 61 = .ok (.invokevirtual 118, 3) := by decide +kernel
theorem dX1_endTurn_64 : decode cX1_endTurn 64 = .ok (.getfield 127, 3) := by decide +kernel
theorem dX1_endTurn_67 : decode cX1_endTurn 67 = .ok (.aload_n 1, 1) := by decide +kernel
theorem dX1_endTurn_68 : decode cX1_endTurn 68 = .ok (.getfield 103, 3) := by decide +kernel
theorem dX1_endTurn_71 : decode cX1_endTurn 71 = .ok (.if_icmp .ne 8, 3) := by decide +kernel
theorem dX1_endTurn_74 : decode cX1_endTurn 74 = .ok (.aload_n 0, 1) := by decide +kernel
theorem dX1_endTurn_75 : decode cX1_endTurn 75 = .ok (.aload_n 3, 1) := by decide +kernel
theorem dX1_endTurn_76 : decode cX1_endTurn 76 = .ok (.invokevirtual 112, 3) := by decide +kernel
theorem dX1_endTurn_79 : decode cX1_endTurn 79 = .ok (.iinc 2 1, 3) := by decide +kernel
theorem dX1_endTurn_82 : decode cX1_endTurn 82 = .ok (.goto (-48), 3) := by decide +kernel
theorem dX1_endTurn_85 : decode cX1_endTurn 85 = .ok (.return_, 1) := by decide +kernel
theorem dX2_init_0 : decode cX2_init 0 = .ok (.aload_n 0, 1) := by decide +kernel
theorem dX2_init_1 : decode cX2_init 1 = .ok (.invokespecial 3, 3) := by decide +kernel
theorem dX2_init_4 : decode cX2_init 4 = .ok (.aload_n 0, 1) := by decide +kernel
theorem dX2_init_5 : decode cX2_init 5 = .ok (.iconst 5, 1) := by decide +kernel
theorem dX2_init_6 : decode cX2_init 6 = .ok (.putfield 9, 3) := by decide +kernel
theorem dX2_init_9 : decode cX2_init 9 = .ok (.aload_n 0, 1) := by decide +kernel
theorem dX2_init_10 : decode cX2_init 10 = .ok (.bipush 12, 2) := by decide +kernel
theorem dX2_init_12 : decode cX2_init 12 = .ok (.anewarray 15, 3) := by decide +kernel
theorem dX2_init_15 : decode cX2_init 15 = .ok (.putfield 17, 3) := by decide +kernel
theorem dX2_init_18 : decode cX2_init 18 = .ok (.aload_n 0, 1) := by decide +kernel
theorem dX2_init_19 : decode cX2_init 19 = .ok (.new 15, 3) := by decide +kernel
theorem dX2_init_22 : decode cX2_init 22 = .ok (.dup, 1) := by decide +kernel
theorem dX2_init_23 : decode cX2_init 23 = .ok (.invokespecial 21, 3) := by decide +kernel
theorem dX2_init_26 : decode cX2_init 26 = .ok (.putfield 22, 3) := by decide +kernel
theorem dX2_init_29 : decode cX2_init 29 = .ok (.aload_n 0, 1) := by decide +kernel
theorem dX2_init_30 : decode cX2_init 30 = .ok (.iload_n 1, 1) := by decide +kernel
theorem dX2_init_31 : decode cX2_init 31 = .ok (.putfield 26, 3) := by decide +kernel
theorem dX2_init_34 : decode cX2_init 34 = .ok (.iconst 0, 1) := by decide +kernel
theorem dX2_init_35 : decode cX2_init 35 = .ok (.istore_n 2, 1) := by decide +kernel
theorem dX2_init_36 : decode cX2_init 36 = .ok (.iload_n 2, 1) := by decide +kernel
theorem dX2_init_37 : decode cX2_init 37 = .ok (.aload_n 0, 1) := by decide +kernel
theorem dX2_init_38 : decode cX2_init 38 = .ok (.getfield 17, 3) := by decide +kernel
theorem dX2_init_41 : decode cX2_init 41 = .ok (.arraylength, 1) := by decide +kernel
theorem dX2_init_42 : decode cX2_init 42 = .ok (.if_icmp .ge 22, 3) := by decide +kernel
theorem dX2_init_45 : decode cX2_init 45 = .ok (.aload_n 0, 1) := by decide +kernel
theorem dX2_init_46 : decode cX2_init 46 = .ok (.getfield 17, 3) := by decide +kernel
theorem dX2_init_49 : decode cX2_init 49 = .ok (.iload_n 2, 1) := by decide +kernel
theorem dX2_init_50 : decode cX2_init 50 = .ok (.new 15, 3) := by decide +kernel
theorem dX2_init_53 : decode cX2_init 53 = .ok (.dup, 1) := by decide +kernel
theorem dX2_init_54 : decode cX2_init 54 = .ok (.invokespecial 21, 3) := by decide +kernel
theorem dX2_init_57 : decode cX2_init 57 = .ok (.aastore, 1) := by decide +kernel
theorem dX2_init_58 : decode cX2_init 58 = .ok (.iinc 2 1, 3) := by decide +kernel
theorem dX2_init_61 : decode cX2_init 61 = .ok (.goto (-25), 3) := by decide +kernel
theorem dX2_init_64 : decode cX2_init 64 = .ok (.return_, 1) := by decide +kernel
theorem dX2_stepAt_0 : decode cX2_stepAt 0 = .ok (.iload_n 1, 1) := by decide +kernel
theorem dX2_stepAt_1 : decode cX2_stepAt 1 = .ok (.ifCond .lt 12, 3) := by decide +kernel
theorem dX2_stepAt_4 : decode cX2_stepAt 4 = .ok (.iload_n 1, 1) := by decide +kernel
theorem dX2_stepAt_5 : decode cX2_stepAt 5 = .ok (.aload_n 0, 1) := by decide +kernel
theorem dX2_stepAt_6 : decode cX2_stepAt 6 = .ok (.getfield 17, 3) := by decide +kernel
theorem dX2_stepAt_9 : decode cX2_stepAt 9 = .ok (.arraylength, 1) := by decide +kernel
theorem dX2_stepAt_10 : decode cX2_stepAt 10 = .ok (.if_icmp .lt 8, 3) := by decide +kernel
theorem dX2_stepAt_13 : decode cX2_stepAt 13 = .ok (.aload_n 0, 1) := by decide +kernel
theorem dX2_stepAt_14 : decode cX2_stepAt 14 = .ok (.getfield 22, 3) := by decide +kernel
theorem dX2_stepAt_17 : decode cX2_stepAt 17 = .ok (.areturn, 1) := by decide +kernel
theorem dX2_stepAt_18 : decode cX2_stepAt 18 = .ok (.aload_n 0, 1) := by decide +kernel
theorem dX2_stepAt_19 : decode cX2_stepAt 19 = .ok (.getfield 17, 3) := by decide +kernel
theorem dX2_stepAt_22 : decode cX2_stepAt 22 = .ok (.iload_n 1, 1) := by decide +kernel
theorem dX2_stepAt_23 : decode cX2_stepAt 23 = .ok (.aaload, 1) := by decide +kernel
theorem dX2_stepAt_24 : decode cX2_stepAt 24 = .ok (.astore_n 2, 1) := by decide +kernel
theorem dX2_stepAt_25 : decode cX2_stepAt 25 = .ok (.aload_n 2, 1) := by decide +kernel
theorem dX2_stepAt_26 : decode cX2_stepAt 26 = .ok (.ifnonnull 10, 3) := by decide +kernel
theorem dX2_stepAt_29 : decode cX2_stepAt 29 = .ok (.aload_n 0, 1) := by decide +kernel
theorem dX2_stepAt_30 : decode cX2_stepAt 30 = .ok (.getfield 22, 3) := by decide +kernel
theorem dX2_stepAt_33 : decode cX2_stepAt 33 = .ok (.goto 4, 3) := by decide +kernel
theorem dX2_stepAt_36 : decode cX2_stepAt 36 = .ok (.aload_n 2, 1) := by decide +kernel
theorem dX2_stepAt_37 : decode cX2_stepAt 37 = .ok (.areturn, 1) := by decide +kernel
theorem dX2_hasStepsLeft_0 : decode cX2_hasStepsLeft 0 = .ok (.aload_n 0, 1) := by decide +kernel
theorem dX2_hasStepsLeft_1 : decode cX2_hasStepsLeft 1 = .ok (.getfield 29, 3) := by decide +kernel
theorem dX2_hasStepsLeft_4 : decode cX2_hasStepsLeft 4 = .ok (.aload_n 0, 1) := by decide +kernel
theorem dX2_hasStepsLeft_5 : decode cX2_hasStepsLeft 5 = .ok (.getfield 32, 3) := by decide +kernel
theorem dX2_hasStepsLeft_8 : decode cX2_hasStepsLeft 8 = .ok (.if_icmp .ge 7, 3) := by decide +kernel
theorem dX2_hasStepsLeft_11 : decode cX2_hasStepsLeft 11 = .ok (.iconst 1, 1) := by decide +kernel
theorem dX2_hasStepsLeft_12 : decode cX2_hasStepsLeft 12 = .ok (.goto 4, 3) := by decide +kernel
theorem dX2_hasStepsLeft_15 : decode cX2_hasStepsLeft 15 = .ok (.iconst 0, 1) := by decide +kernel
theorem dX2_hasStepsLeft_16 : decode cX2_hasStepsLeft 16 = .ok (.ireturn, 1) := by decide +kernel
theorem dX2_moveOn_0 : decode cX2_moveOn 0 = .ok (.aload_n 0, 1) := by decide +kernel
theorem dX2_moveOn_1 : decode cX2_moveOn 1 = .ok (.dup, 1) := by decide +kernel
theorem dX2_moveOn_2 : decode cX2_moveOn 2 = .ok (.getfield 29, 3) := by decide +kernel
theorem dX2_moveOn_5 : decode cX2_moveOn 5 = .ok (.iconst 1, 1) := by decide +kernel
theorem dX2_moveOn_6 : decode cX2_moveOn 6 = .ok (.iadd, 1) := by decide +kernel
theorem dX2_moveOn_7 : decode cX2_moveOn 7 = .ok (.putfield 29, 3) := by decide +kernel
theorem dX2_moveOn_10 : decode cX2_moveOn 10 = .ok (.aload_n 0, 1) := by decide +kernel
theorem dX2_moveOn_11 : decode cX2_moveOn 11 = .ok (.dup, 1) := by decide +kernel
theorem dX2_moveOn_12 : decode cX2_moveOn 12 = .ok (.getfield 35, 3) := by decide +kernel
theorem dX2_moveOn_15 : decode cX2_moveOn 15 = .ok (.iconst 1, 1) := by decide +kernel
theorem dX2_moveOn_16 : decode cX2_moveOn 16 = .ok (.iadd, 1) := by decide +kernel
theorem dX2_moveOn_17 : decode cX2_moveOn 17 = .ok (.putfield 35, 3) := by decide +kernel
theorem dX2_moveOn_20 : decode cX2_moveOn 20 = .ok (.return_, 1) := by decide +kernel
theorem dX2_goBack_0 : decode cX2_goBack 0 = .ok (.aload_n 1, 1) := by decide +kernel
theorem dX2_goBack_1 : decode cX2_goBack 1 = .ok (.getfield 38, 3) := by decide +kernel
theorem dX2_goBack_4 : decode cX2_goBack 4 = .ok (.aload_n 1, 1) := by decide +kernel
theorem dX2_goBack_5 : decode cX2_goBack 5 = .ok (.getfield 41, 3) := by decide +kernel
theorem dX2_goBack_8 : decode cX2_goBack 8 = .ok (.if_icmp .ge 34, 3) := by decide +kernel
theorem dX2_goBack_11 : decode cX2_goBack 11 = .ok (.aload_n 1, 1) := by decide +kernel
theorem dX2_goBack_12 : decode cX2_goBack 12 = .ok (.dup, 1) := by decide +kernel
theorem dX2_goBack_13 : decode cX2_goBack 13 = .ok (.getfield 38, 3) := by decide +kernel
theorem dX2_goBack_16 : decode cX2_goBack 16 = .ok (.iconst 1, 1) := by decide +kernel
theorem dX2_goBack_17 : decode cX2_goBack 17 = .ok (.iadd, 1) := by decide +kernel
theorem dX2_goBack_18 : decode cX2_goBack 18 = .ok (.putfield 38, 3) := by decide +kernel
theorem dX2_goBack_21 : decode cX2_goBack 21 = .ok (.aload_n 0, 1) := by decide +kernel
theorem dX2_goBack_22 : decode cX2_goBack 22 = .ok (.aload_n 1, 1) := by decide +kernel
theorem dX2_goBack_23 : decode cX2_goBack 23 = .ok (.getfield 44, 3) := by decide +kernel
theorem dX2_goBack_26 : decode cX2_goBack 26 = .ok (.putfield 29, 3) := by decide +kernel
theorem dX2_goBack_29 : decode cX2_goBack 29 = .ok (.aload_n 0, 1) := by decide +kernel
theorem dX2_goBack_30 : decode cX2_goBack 30 = .ok (.dup, 1) := by decide +kernel
theorem dX2_goBack_31 : decode cX2_goBack 31 = .ok (.getfield 35, 3) := by decide +kernel
theorem dX2_goBack_34 : decode cX2_goBack 34 = .ok (.iconst 1, 1) := by decide +kernel
theorem dX2_goBack_35 : decode cX2_goBack 35 = .ok (.iadd, 1) := by decide +kernel
theorem dX2_goBack_36 : decode cX2_goBack 36 = .ok (.putfield 35, 3) := by decide +kernel
theorem dX2_goBack_39 : decode cX2_goBack 39 = .ok (.goto 12, 3) := by decide +kernel
theorem dX2_goBack_42 : decode cX2_goBack 42 = .ok (.aload_n 1, 1) := by decide +kernel
theorem dX2_goBack_43 : decode cX2_goBack 43 = .ok (.iconst 0, 1) := by decide +kernel
theorem dX2_goBack_44 : decode cX2_goBack 44 = .ok (.putfield 38, 3) := by decide +kernel
theorem dX2_goBack_47 : decode cX2_goBack 47 = .ok (.aload_n 0, 1) := by decide +kernel
theorem dX2_goBack_48 : decode cX2_goBack 48 = .ok (.invokevirtual 47, 3) := by decide +kernel
theorem dX2_goBack_51 : decode cX2_goBack 51 = .ok (.return_, 1) := by decide +kernel
theorem dX2_becomeLike_0 : decode cX2_becomeLike 0 = .ok (.aload_n 0, 1) := by decide +kernel
theorem dX2_becomeLike_1 : decode cX2_becomeLike 1 = .ok (.aload_n 1, 1) := by decide +kernel
theorem dX2_becomeLike_2 : decode cX2_becomeLike 2 = .ok (.getfield 9, 3) := by decide +kernel
theorem dX2_becomeLike_5 : decode cX2_becomeLike 5 = .ok (.putfield 9, 3) := by decide +kernel
theorem dX2_becomeLike_8 : decode cX2_becomeLike 8 = .ok (.aload_n 0, 1) := by decide +kernel
theorem dX2_becomeLike_9 : decode cX2_becomeLike 9 = .ok (.aload_n 1, 1) := by decide +kernel
theorem dX2_becomeLike_10 : decode cX2_becomeLike 10 = .ok (.getfield 29, 3) := by decide +kernel
theorem dX2_becomeLike_13 : decode cX2_becomeLike 13 = .ok (.putfield 29, 3) := by decide +kernel
theorem dX2_becomeLike_16 : decode cX2_becomeLike 16 = .ok (.aload_n 0, 1) := by decide +kernel
theorem dX2_becomeLike_17 : decode cX2_becomeLike 17 = .ok (.aload_n 1, 1) := by decide +kernel
theorem dX2_becomeLike_18 : decode cX2_becomeLike 18 = .ok (.getfield 50, 3) := by decide +kernel
theorem dX2_becomeLike_21 : decode cX2_becomeLike 21 = .ok (.putfield 50, 3) := by decide +kernel
theorem dX2_becomeLike_24 : decode cX2_becomeLike 24 = .ok (.aload_n 0, 1) := by decide +kernel
theorem dX2_becomeLike_25 : decode cX2_becomeLike 25 = .ok (.aload_n 1, 1) := by decide +kernel
theorem dX2_becomeLike_26 : decode cX2_becomeLike 26 = .ok (.getfield 35, 3) := by decide +kernel
theorem dX2_becomeLike_29 : decode cX2_becomeLike 29 = .ok (.putfield 35, 3) := by decide +kernel
theorem dX2_becomeLike_32 : decode cX2_becomeLike 32 = .ok (.aload_n 0, 1) := by decide +kernel
theorem dX2_becomeLike_33 : decode cX2_becomeLike 33 = .ok (.aload_n 1, 1) := by decide +kernel
theorem dX2_becomeLike_34 : decode cX2_becomeLike 34 = .ok (.getfield 53, 3) := by decide +kernel
theorem dX2_becomeLike_37 : decode cX2_becomeLike 37 = .ok (.putfield 53, 3) := by decide +kernel
theorem dX2_becomeLike_40 : decode cX2_becomeLike 40 = .ok (.aload_n 0, 1) := by decide +kernel
theorem dX2_becomeLike_41 : decode cX2_becomeLike 41 = .ok (.aload_n 1, 1) := by decide +kernel
theorem dX2_becomeLike_42 : decode cX2_becomeLike 42 = .ok (.getfield 56, 3) := by decide +kernel
theorem dX2_becomeLike_45 : decode cX2_becomeLike 45 = .ok (.putfield 56, 3) := by decide +kernel
theorem dX2_becomeLike_48 : decode cX2_becomeLike 48 = .ok (.aload_n 0, 1) := by decide +kernel
theorem dX2_becomeLike_49 : decode cX2_becomeLike 49 = .ok (.aload_n 1, 1) := by decide +kernel
theorem dX2_becomeLike_50 : decode cX2_becomeLike 50 = .ok (.getfield 32, 3) := by decide +kernel
theorem dX2_becomeLike_53 : decode cX2_becomeLike 53 = .ok (.putfield 32, 3) := by decide +kernel
theorem dX2_becomeLike_56 : decode cX2_becomeLike 56 = .ok (.iconst 0, 1) := by decide +kernel
theorem dX2_becomeLike_57 : decode cX2_becomeLike 57 = .ok (.istore_n 2, 1) := by decide +kernel
theorem dX2_becomeLike_58 : decode cX2_becomeLike 58 = .ok (.iload_n 2, 1) := by decide +kernel
theorem dX2_becomeLike_59 : decode cX2_becomeLike 59 = .ok (.aload_n 0, 1) := by decide +kernel
theorem dX2_becomeLike_60 : decode cX2_becomeLike 60 = .ok (.getfield 32, 3) := by decide +kernel
theorem dX2_becomeLike_63 : decode cX2_becomeLike 63 = .ok (.if_icmp .ge 22, 3) := by decide +kernel
theorem dX2_becomeLike_66 : decode cX2_becomeLike 66 = .ok (.aload_n 0, 1) := by decide +kernel
theorem dX2_becomeLike_67 : decode cX2_becomeLike 67 = .ok (.iload_n 2, 1) := by decide +kernel
theorem dX2_becomeLike_68 : decode cX2_becomeLike 68 = .ok (.invokevirtual 59, 3) := by decide +kernel
theorem dX2_becomeLike_71 : decode cX2_becomeLike 71 = .ok (.aload_n 1, 1) := by decide +kernel
theorem dX2_becomeLike_72 : decode cX2_becomeLike 72 = .ok (.iload_n 2, 1) := by decide +kernel
theorem dX2_becomeLike_73 : decode cX2_becomeLike 73 = .ok (.invokevirtual 59, 3) := by decide +kernel
theorem dX2_becomeLike_76 : decode cX2_becomeLike 76 = .ok (.invokevirtual 63, 3) := by decide +kernel
theorem dX2_becomeLike_79 : decode cX2_becomeLike 79 = .ok (.iinc 2 1, 3) := by decide +kernel
theorem dX2_becomeLike_82 : decode cX2_becomeLike 82 = .ok (.goto (-24), 3) := by decide +kernel
theorem dX2_becomeLike_85 : decode cX2_becomeLike 85 = .ok (.return_, 1) := by decide +kernel
theorem dX3_init_0 : decode cX3_init 0 = .ok (.aload_n 0, 1) := by decide +kernel
theorem dX3_init_1 : decode cX3_init 1 = .ok (.invokespecial 3, 3) := by decide +kernel
theorem dX3_init_4 : decode cX3_init 4 = .ok (.aload_n 0, 1) := by decide +kernel
theorem dX3_init_5 : decode cX3_init 5 = .ok (.bipush 8, 2) := by decide +kernel
theorem dX3_init_7 : decode cX3_init 7 = .ok (.newarray .int, 2) := by decide +kernel
theorem dX3_init_9 : decode cX3_init 9 = .ok (.putfield 9, 3) := by decide +kernel
theorem dX3_init_12 : decode cX3_init 12 = .ok (.return_, 1) := by decide +kernel
theorem dX3_look_0 : decode cX3_look 0 = .ok (.iload_n 1, 1) := by decide +kernel
theorem dX3_look_1 : decode cX3_look 1 = .ok (.ifCond .lt 29, 3) := by decide +kernel
theorem dX3_look_4 : decode cX3_look 4 = .ok (.iload_n 1, 1) := by decide +kernel
theorem dX3_look_5 : decode cX3_look 5 = .ok (.aload_n 0, 1) := by decide +kernel
theorem dX3_look_6 : decode cX3_look 6 = .ok (.getfield 15, 3) := by decide +kernel
theorem dX3_look_9 : decode cX3_look 9 = .ok (.if_icmp .ge 21, 3) := by decide +kernel
theorem dX3_look_12 : decode cX3_look 12 = .ok (.iload_n 1, 1) := by decide +kernel
theorem dX3_look_13 : decode cX3_look 13 = .ok (.aload_n 0, 1) := by decide +kernel
theorem dX3_look_14 : decode cX3_look 14 = .ok (.getfield 9, 3) := by decide +kernel
theorem dX3_look_17 : decode cX3_look 17 = .ok (.arraylength, 1) := by decide +kernel
theorem dX3_look_18 : decode cX3_look 18 = .ok (.if_icmp .ge 12, 3) := by decide +kernel
theorem dX3_look_21 : decode cX3_look 21 = .ok (.aload_n 0, 1) := by decide +kernel
theorem dX3_look_22 : decode cX3_look 22 = .ok (.getfield 9, 3) := by decide +kernel
theorem dX3_look_25 : decode cX3_look 25 = .ok (.iload_n 1, 1) := by decide +kernel
theorem dX3_look_26 : decode cX3_look 26 = .ok (.iaload, 1) := by decide +kernel
theorem dX3_look_27 : decode cX3_look 27 = .ok (.goto 4, 3) := by decide +kernel
theorem dX3_look_30 : decode cX3_look 30 = .ok (.iconst (-1), 1) := by decide +kernel
theorem dX3_look_31 : decode cX3_look 31 = .ok (.ireturn, 1) := by decide +kernel
theorem dX3_find_0 : decode cX3_find 0 = .ok (.iconst 0, 1) := by decide +kernel
theorem dX3_find_1 : decode cX3_find 1 = .ok (.istore_n 2, 1) := by decide +kernel
theorem dX3_find_2 : decode cX3_find 2 = .ok (.iload_n 2, 1) := by decide +kernel
theorem dX3_find_3 : decode cX3_find 3 = .ok (.aload_n 0, 1) := by decide +kernel
theorem dX3_find_4 : decode cX3_find 4 = .ok (.getfield 15, 3) := by decide +kernel
theorem dX3_find_7 : decode cX3_find 7 = .ok (.if_icmp .ge 30, 3) := by decide +kernel
theorem dX3_find_10 : decode cX3_find 10 = .ok (.iload_n 2, 1) := by decide +kernel
theorem dX3_find_11 : decode cX3_find 11 = .ok (.aload_n 0, 1) := by decide +kernel
theorem dX3_find_12 : decode cX3_find 12 = .ok (.getfield 9, 3) := by decide +kernel
theorem dX3_find_15 : decode cX3_find 15 = .ok (.arraylength, 1) := by decide +kernel
theorem dX3_find_16 : decode cX3_find 16 = .ok (.if_icmp .ge 21, 3) := by decide +kernel
theorem dX3_find_19 : decode cX3_find 19 = .ok (.aload_n 0, 1) := by decide +kernel
theorem dX3_find_20 : decode cX3_find 20 = .ok (.getfield 9, 3) := by decide +kernel
theorem dX3_find_23 : decode cX3_find 23 = .ok (.iload_n 2, 1) := by decide +kernel
theorem dX3_find_24 : decode cX3_find 24 = .ok (.iaload, 1) := by decide +kernel
theorem dX3_find_25 : decode cX3_find 25 = .ok (.iload_n 1, 1) := by decide +kernel
theorem dX3_find_26 : decode cX3_find 26 = .ok (.if_icmp .ne 5, 3) := by decide +kernel
theorem dX3_find_29 : decode cX3_find 29 = .ok (.iload_n 2, 1) := by decide +kernel
theorem dX3_find_30 : decode cX3_find 30 = .ok (.ireturn, 1) := by decide +kernel
theorem dX3_find_31 : decode cX3_find 31 = .ok (.iinc 2 1, 3) := by decide +kernel
theorem dX3_find_34 : decode cX3_find 34 = .ok (.goto (-32), 3) := by decide +kernel
theorem dX3_find_37 : decode cX3_find 37 = .ok (.iconst (-1), 1) := by decide +kernel
theorem dX3_find_38 : decode cX3_find 38 = .ok (.ireturn, 1) := by decide +kernel
theorem dX3_addLast_0 : decode cX3_addLast 0 = .ok (.aload_n 0, 1) := by decide +kernel
theorem dX3_addLast_1 : decode cX3_addLast 1 = .ok (.getfield 15, 3) := by decide +kernel
theorem dX3_addLast_4 : decode cX3_addLast 4 = .ok (.ifCond .lt 35, 3) := by decide +kernel
theorem dX3_addLast_7 : decode cX3_addLast 7 = .ok (.aload_n 0, 1) := by decide +kernel
theorem dX3_addLast_8 : decode cX3_addLast 8 = .ok (.getfield 15, 3) := by decide +kernel
theorem dX3_addLast_11 : decode cX3_addLast 11 = .ok (.aload_n 0, 1) := by decide +kernel
theorem dX3_addLast_12 : decode cX3_addLast 12 = .ok (.getfield 9, 3) := by decide +kernel
theorem dX3_addLast_15 : decode cX3_addLast 15 = .ok (.arraylength, 1) := by decide +kernel
theorem dX3_addLast_16 : decode cX3_addLast 16 = .ok (.if_icmp .ge 23, 3) := by decide +kernel
theorem dX3_addLast_19 : decode cX3_addLast 19 = .ok (.aload_n 0, 1) := by decide +kernel
theorem dX3_addLast_20 : decode cX3_addLast 20 = .ok (.getfield 9, 3) := by decide +kernel
theorem dX3_addLast_23 : decode cX3_addLast 23 = .ok (.aload_n 0, 1) := by decide +kernel
theorem dX3_addLast_24 : decode cX3_addLast 24 = .ok (.getfield 15, 3) := by decide +kernel
theorem dX3_addLast_27 : decode cX3_addLast 27 = .ok (.iload_n 1, 1) := by decide +kernel
theorem dX3_addLast_28 : decode cX3_addLast 28 = .ok (.iastore, 1) := by decide +kernel
theorem dX3_addLast_29 : decode cX3_addLast 29 = .ok (.aload_n 0, 1) := by decide +kernel
theorem dX3_addLast_30 : decode cX3_addLast 30 = .ok (.dup, 1) := by decide +kernel
theorem dX3_addLast_31 : decode cX3_addLast 31 = .ok (.getfield 15, 3) := by decide +kernel
theorem dX3_addLast_34 : decode cX3_addLast 34 = .ok (.iconst 1, 1) := by decide +kernel
theorem dX3_addLast_35 : decode cX3_addLast 35 = .ok (.iadd, 1) := by decide +kernel
theorem dX3_addLast_36 : decode cX3_addLast 36 = .ok (.putfield 15, 3) := by decide +kernel
theorem dX3_addLast_39 : decode cX3_addLast 39 = .ok (.return_, 1) := by decide +kernel
theorem dX3_takeFirst_0 : decode cX3_takeFirst 0 = .ok (.aload_n 0, 1) := by decide +kernel
theorem dX3_takeFirst_1 : decode cX3_takeFirst 1 = .ok (.getfield 15, 3) := by decide +kernel
theorem dX3_takeFirst_4 : decode cX3_takeFirst 4 = .ok (.ifCond .le 11, 3) := by decide +kernel
theorem dX3_takeFirst_7 : decode cX3_takeFirst 7 = .ok (.aload_n 0, 1) := by decide +kernel
theorem dX3_takeFirst_8 : decode cX3_takeFirst 8 = .ok (.getfield 9, 3) := by decide +kernel
theorem dX3_takeFirst_11 : decode cX3_takeFirst 11 = .ok (.arraylength, 1) := by decide +kernel
theorem dX3_takeFirst_12 : decode cX3_takeFirst 12 = .ok (.ifCond .ne 5, 3) := by decide +kernel
theorem dX3_takeFirst_15 : decode cX3_takeFirst 15 = .ok (.iconst (-1), 1) := by decide +kernel
theorem dX3_takeFirst_16 : decode cX3_takeFirst 16 = .ok (.ireturn, 1) := by decide +kernel
theorem dX3_takeFirst_17 : decode cX3_takeFirst 17 = .ok (.aload_n 0, 1) := by decide +kernel
theorem dX3_takeFirst_18 : decode cX3_takeFirst 18 = .ok (.getfield 9, 3) := by decide +kernel
theorem dX3_takeFirst_21 : decode cX3_takeFirst 21 = .ok (.iconst 0, 1) := by decide +kernel
theorem dX3_takeFirst_22 : decode cX3_takeFirst 22 = .ok (.iaload, 1) := by decide +kernel
theorem dX3_takeFirst_23 : decode cX3_takeFirst 23 = .ok (.istore_n 1, 1) := by decide +kernel
theorem dX3_takeFirst_24 : decode cX3_takeFirst 24 = .ok (.iconst 1, 1) := by decide +kernel
theorem dX3_takeFirst_25 : decode cX3_takeFirst 25 = .ok (.istore_n 2, 1) := by decide +kernel
theorem dX3_takeFirst_26 : decode cX3_takeFirst 26 = .ok (.iload_n 2, 1) := by decide +kernel
theorem dX3_takeFirst_27 : decode cX3_takeFirst 27 = .ok (.aload_n 0, 1) := by decide +kernel
theorem dX3_takeFirst_28 : decode cX3_takeFirst 28 = .ok (.getfield 15, 3) := by decide +kernel
theorem dX3_takeFirst_31 : decode cX3_takeFirst 31 = .ok (.if_icmp .ge 32, 3) := by decide +kernel
theorem dX3_takeFirst_34 : decode cX3_takeFirst 34 = .ok (.iload_n 2, 1) := by decide +kernel
theorem dX3_takeFirst_35 : decode cX3_takeFirst 35 = .ok (.aload_n 0, 1) := by decide +kernel
theorem dX3_takeFirst_36 : decode cX3_takeFirst 36 = .ok (.getfield 9, 3) := by decide +kernel
theorem dX3_takeFirst_39 : decode cX3_takeFirst 39 = .ok (.arraylength, 1) := by decide +kernel
theorem dX3_takeFirst_40 : decode cX3_takeFirst 40 = .ok (.if_icmp .ge 23, 3) := by decide +kernel
theorem dX3_takeFirst_43 : decode cX3_takeFirst 43 = .ok (.aload_n 0, 1) := by decide +kernel
theorem dX3_takeFirst_44 : decode cX3_takeFirst 44 = .ok (.getfield 9, 3) := by decide +kernel
theorem dX3_takeFirst_47 : decode cX3_takeFirst 47 = .ok (.iload_n 2, 1) := by decide +kernel
theorem dX3_takeFirst_48 : decode cX3_takeFirst 48 = .ok (.iconst 1, 1) := by decide +kernel
theorem dX3_takeFirst_49 : decode cX3_takeFirst 49 = .ok (.isub, 1) := by decide +kernel
theorem dX3_takeFirst_50 : decode cX3_takeFirst 50 = .ok (.aload_n 0, 1) := by decide +kernel
theorem dX3_takeFirst_51 : decode cX3_takeFirst 51 = .ok (.getfield 9, 3) := by decide +kernel
theorem dX3_takeFirst_54 : decode cX3_takeFirst 54 = .ok (.iload_n 2, 1) := by decide +kernel
theorem dX3_takeFirst_55 : decode cX3_takeFirst 55 = .ok (.iaload, 1) := by decide +kernel
theorem dX3_takeFirst_56 : decode cX3_takeFirst 56 = .ok (.iastore, 1) := by decide +kernel
theorem dX3_takeFirst_57 : decode cX3_takeFirst 57 = .ok (.iinc 2 1, 3) := by decide +kernel
theorem dX3_takeFirst_60 : decode cX3_takeFirst 60 = .ok (.goto (-34), 3) := by decide +kernel
theorem dX3_takeFirst_63 : decode cX3_takeFirst 63 = .ok (.aload_n 0, 1) := by decide +kernel
theorem dX3_takeFirst_64 : decode cX3_takeFirst 64 = .ok (.dup, 1) := by decide +kernel
theorem dX3_takeFirst_65 : decode cX3_takeFirst 65 = .ok (.getfield 15, 3) := by decide +kernel
theorem dX3_takeFirst_68 : decode cX3_takeFirst 68 = .ok (.iconst 1, 1) := by decide +kernel
theorem dX3_takeFirst_69 : decode cX3_takeFirst 69 = .ok (.isub, 1) := by decide +kernel
theorem dX3_takeFirst_70 : decode cX3_takeFirst 70 = .ok (.putfield 15, 3) := by decide +kernel
theorem dX3_takeFirst_73 : decode cX3_takeFirst 73 = .ok (.iload_n 1, 1) := by decide +kernel
theorem dX3_takeFirst_74 : decode cX3_takeFirst 74 = .ok (.ireturn, 1) := by decide +kernel
theorem dX3_becomeLike_0 : decode cX3_becomeLike 0 = .ok (.aload_n 0, 1) := by decide +kernel
theorem dX3_becomeLike_1 : decode cX3_becomeLike 1 = .ok (.aload_n 1, 1) := by decide +kernel
theorem dX3_becomeLike_2 : decode cX3_becomeLike 2 = .ok (.getfield 15, 3) := by decide +kernel
theorem dX3_becomeLike_5 : decode cX3_becomeLike 5 = .ok (.putfield 15, 3) := by decide +kernel
theorem dX3_becomeLike_8 : decode cX3_becomeLike 8 = .ok (.iconst 0, 1) := by decide +kernel
theorem dX3_becomeLike_9 : decode cX3_becomeLike 9 = .ok (.istore_n 2, 1) := by decide +kernel
theorem dX3_becomeLike_10 : decode cX3_becomeLike 10 = .ok (.iload_n 2, 1) := by decide +kernel
theorem dX3_becomeLike_11 : decode cX3_becomeLike 11 = .ok (.aload_n 0, 1) := by decide +kernel
theorem dX3_becomeLike_12 : decode cX3_becomeLike 12 = .ok (.getfield 9, 3) := by decide +kernel
theorem dX3_becomeLike_15 : decode cX3_becomeLike 15 = .ok (.arraylength, 1) := by decide +kernel
theorem dX3_becomeLike_16 : decode cX3_becomeLike 16 = .ok (.if_icmp .ge 20, 3) := by decide +kernel
theorem dX3_becomeLike_19 : decode cX3_becomeLike 19 = .ok (.aload_n 0, 1) := by decide +kernel
theorem dX3_becomeLike_20 : decode cX3_becomeLike 20 = .ok (.getfield 9, 3) := by decide +kernel
theorem dX3_becomeLike_23 : decode cX3_becomeLike 23 = .ok (.iload_n 2, 1) := by decide +kernel
theorem dX3_becomeLike_24 : decode cX3_becomeLike 24 = .ok (.aload_n 1, 1) := by decide +kernel
theorem dX3_becomeLike_25 : decode cX3_becomeLike 25 = .ok (.iload_n 2, 1) := by decide +kernel
theorem dX3_becomeLike_26 : decode cX3_becomeLike 26 = .ok (.invokevirtual 19, 3) := by decide +kernel
theorem dX3_becomeLike_29 : decode cX3_becomeLike 29 = .ok (.iastore, 1) := by decide +kernel
theorem dX3_becomeLike_30 : decode cX3_becomeLike 30 = .ok (.iinc 2 1, 3) := by decide +kernel
theorem dX3_becomeLike_33 : decode cX3_becomeLike 33 = .ok (.goto (-23), 3) := by decide +kernel
theorem dX3_becomeLike_36 : decode cX3_becomeLike 36 = .ok (.return_, 1) := by decide +kernel
theorem dX4_init_0 : decode cX4_init 0 = .ok (.aload_n 0, 1) := by decide +kernel
theorem dX4_init_1 : decode cX4_init 1 = .ok (.invokespecial 3, 3) := by decide +kernel
theorem dX4_init_4 : decode cX4_init 4 = .ok (.aload_n 0, 1) := by decide +kernel
theorem dX4_init_5 : decode cX4_init 5 = .ok (.iconst 3, 1) := by decide +kernel
theorem dX4_init_6 : decode cX4_init 6 = .ok (.putfield 9, 3) := by decide +kernel
theorem dX4_init_9 : decode cX4_init 9 = .ok (.return_, 1) := by decide +kernel
theorem dX4_describe_0 : decode cX4_describe 0 = .ok (.aload_n 0, 1) := by decide +kernel
theorem dX4_describe_1 : decode cX4_describe 1 = .ok (.iload_n 1, 1) := by decide +kernel
theorem dX4_describe_2 : decode cX4_describe 2 = .ok (.putfield 9, 3) := by decide +kernel
theorem dX4_describe_5 : decode cX4_describe 5 = .ok (.aload_n 0, 1) := by decide +kernel
theorem dX4_describe_6 : decode cX4_describe 6 = .ok (.iload_n 2, 1) := by decide +kernel
theorem dX4_describe_7 : decode cX4_describe 7 = .ok (.putfield 15, 3) := by decide +kernel
theorem dX4_describe_10 : decode cX4_describe 10 = .ok (.aload_n 0, 1) := by decide +kernel
theorem dX4_describe_11 : decode cX4_describe 11 = .ok (.iload_n 3, 1) := by decide +kernel
theorem dX4_describe_12 : decode cX4_describe 12 = .ok (.putfield 18, 3) := by decide +kernel
theorem dX4_describe_15 : decode cX4_describe 15 = .ok (.return_, 1) := by decide +kernel
theorem dX4_becomeLike_0 : decode cX4_becomeLike 0 = .ok (.aload_n 0, 1) := by decide +kernel
theorem dX4_becomeLike_1 : decode cX4_becomeLike 1 = .ok (.aload_n 1, 1) := by decide +kernel
theorem dX4_becomeLike_2 : decode cX4_becomeLike 2 = .ok (.getfield 9, 3) := by decide +kernel
theorem dX4_becomeLike_5 : decode cX4_becomeLike 5 = .ok (.putfield 9, 3) := by decide +kernel
theorem dX4_becomeLike_8 : decode cX4_becomeLike 8 = .ok (.aload_n 0, 1) := by decide +kernel
theorem dX4_becomeLike_9 : decode cX4_becomeLike 9 = .ok (.aload_n 1, 1) := by decide +kernel
theorem dX4_becomeLike_10 : decode cX4_becomeLike 10 = .ok (.getfield 15, 3) := by decide +kernel
theorem dX4_becomeLike_13 : decode cX4_becomeLike 13 = .ok (.putfield 15, 3) := by decide +kernel
theorem dX4_becomeLike_16 : decode cX4_becomeLike 16 = .ok (.aload_n 0, 1) := by decide +kernel
theorem dX4_becomeLike_17 : decode cX4_becomeLike 17 = .ok (.aload_n 1, 1) := by decide +kernel
theorem dX4_becomeLike_18 : decode cX4_becomeLike 18 = .ok (.getfield 18, 3) := by decide +kernel
theorem dX4_becomeLike_21 : decode cX4_becomeLike 21 = .ok (.putfield 18, 3) := by decide +kernel
theorem dX4_becomeLike_24 : decode cX4_becomeLike 24 = .ok (.aload_n 0, 1) := by decide +kernel
theorem dX4_becomeLike_25 : decode cX4_becomeLike 25 = .ok (.aload_n 1, 1) := by decide +kernel
theorem dX4_becomeLike_26 : decode cX4_becomeLike 26 = .ok (.getfield 21, 3) := by decide +kernel
theorem dX4_becomeLike_29 : decode cX4_becomeLike 29 = .ok (.putfield 21, 3) := by decide +kernel
theorem dX4_becomeLike_32 : decode cX4_becomeLike 32 = .ok (.return_, 1) := by decide +kernel
theorem dX5_init_0 : decode cX5_init 0 = .ok (.aload_n 0, 1) := by decide +kernel
theorem dX5_init_1 : decode cX5_init 1 = .ok (.invokespecial 1, 3) := by decide +kernel
theorem dX5_init_4 : decode cX5_init 4 = .ok (.aload_n 0, 1) := by decide +kernel
theorem dX5_init_5 : decode cX5_init 5 = .ok (.new 7, 3) := by decide +kernel
theorem dX5_init_8 : decode cX5_init 8 = .ok (.dup, 1) := by decide +kernel
theorem dX5_init_9 : decode cX5_init 9 = .ok (.invokespecial 9, 3) := by decide +kernel
theorem dX5_init_12 : decode cX5_init 12 = .ok (.putfield 10, 3) := by decide +kernel
theorem dX5_init_15 : decode cX5_init 15 = .ok (.aload_n 0, 1) := by decide +kernel
theorem dX5_init_16 : decode cX5_init 16 = .ok (.new 7, 3) := by decide +kernel
theorem dX5_init_19 : decode cX5_init 19 = .ok (.dup, 1) := by decide +kernel
theorem dX5_init_20 : decode cX5_init 20 = .ok (.invokespecial 9, 3) := by decide +kernel
theorem dX5_init_23 : decode cX5_init 23 = .ok (.putfield 16, 3) := by decide +kernel
theorem dX5_init_26 : decode cX5_init 26 = .ok (.return_, 1) := by decide +kernel
theorem dX5_addChannel_0 : decode cX5_addChannel 0 = .ok (.iload_n 1, 1) := by decide +kernel
theorem dX5_addChannel_1 : decode cX5_addChannel 1 = .ok (.iconst 1, 1) := by decide +kernel
theorem dX5_addChannel_2 : decode cX5_addChannel 2 = .ok (.if_icmp .lt 8, 3) := by decide +kernel
theorem dX5_addChannel_5 : decode cX5_addChannel 5 = .ok (.iload_n 1, 1) := by decide +kernel
theorem dX5_addChannel_6 : decode cX5_addChannel 6 = .ok (.iconst 4, 1) := by decide +kernel
theorem dX5_addChannel_7 : decode cX5_addChannel 7 = .ok (.if_icmp .le 13, 3) := by decide +kernel
theorem dX5_addChannel_10 : decode cX5_addChannel 10 = .ok (.new 19, 3) := by decide +kernel
theorem dX5_addChannel_13 : decode cX5_addChannel 13 = .ok (.dup, 1) := by decide +kernel
theorem dX5_addChannel_14 : decode cX5_addChannel 14 = .ok (.ldc 21, 2) := by decide +kernel
theorem dX5_addChannel_16 : decode cX5_addChannel 16 = .ok (.invokespecial 23, 3) := by decide +kernel
theorem dX5_addChannel_19 : decode cX5_addChannel 19 = .ok (.athrow, 1) := by decide +kernel
theorem dX5_addChannel_20 : decode cX5_addChannel 20 = .ok (.aload_n 0, 1) := by decide +kernel
theorem dX5_addChannel_21 : decode cX5_addChannel 21 = .ok (.getfield 10, 3) := by decide +kernel
theorem dX5_addChannel_24 : decode cX5_addChannel 24 = .ok (.getfield 26, 3) := by decide +kernel
theorem dX5_addChannel_27 : decode cX5_addChannel 27 = .ok (.iconst 4, 1) := by decide +kernel
theorem dX5_addChannel_28 : decode cX5_addChannel 28 = .ok (.if_icmp .lt 13, 3) := by decide +kernel
theorem dX5_addChannel_31 : decode cX5_addChannel 31 = .ok (.new 30, 3) := by decide +kernel
theorem dX5_addChannel_34 : decode cX5_addChannel 34 = .ok (.dup, 1) := by decide +kernel
theorem dX5_addChannel_35 : decode cX5_addChannel 35 = .ok (.ldc 32, 2) := by decide +kernel
theorem dX5_addChannel_37 : decode cX5_addChannel 37 = .ok (.invokespecial 34, 3) := by decide +kernel
theorem dX5_addChannel_40 : decode cX5_addChannel 40 = .ok (.athrow, 1) := by decide +kernel
theorem dX5_addChannel_41 : decode cX5_addChannel 41 = .ok (.aload_n 0, 1) := by decide +kernel
theorem dX5_addChannel_42 : decode cX5_addChannel 42 = .ok (.getfield 10, 3) := by decide +kernel
theorem dX5_addChannel_45 : decode cX5_addChannel 45 = .ok (.getfield 26, 3) := by decide +kernel
theorem dX5_addChannel_48 : decode cX5_addChannel 48 = .ok (.istore_n 2, 1) := by decide +kernel
theorem dX5_addChannel_49 : decode cX5_addChannel 49 = .ok (.aload_n 0, 1) := by decide +kernel
theorem dX5_addChannel_50 : decode cX5_addChannel 50 = .ok (.getfield 10, 3) := by decide +kernel
theorem dX5_addChannel_53 : decode cX5_addChannel 53 = .ok (.iload_n 2, 1) := by decide +kernel
theorem dX5_addChannel_54 : decode cX5_addChannel 54 = .ok (.invokevirtual 35, 3) := by decide +kernel
theorem dX5_addChannel_57 : decode cX5_addChannel 57 = .ok (.iload_n 1, 1) := by decide +kernel
theorem dX5_addChannel_58 : decode cX5_addChannel 58 = .ok (.putfield 39, 3) := by decide +kernel
theorem dX5_addChannel_61 : decode cX5_addChannel 61 = .ok (.aload_n 0, 1) := by decide +kernel
theorem dX5_addChannel_62 : decode cX5_addChannel 62 = .ok (.getfield 10, 3) := by decide +kernel
theorem dX5_addChannel_65 : decode cX5_addChannel 65 = .ok (.dup, 1) := by decide +kernel
theorem dX5_addChannel_66 : decode cX5_addChannel 66 = .ok (.getfield 26, 3) := by decide +kernel
theorem dX5_addChannel_69 : decode cX5_addChannel 69 = .ok (.iconst 1, 1) := by decide +kernel
theorem dX5_addChannel_70 : decode cX5_addChannel 70 = .ok (.iadd, 1) := by decide +kernel
theorem dX5_addChannel_71 : decode cX5_addChannel 71 = .ok (.putfield 26, 3) := by decide +kernel
theorem dX5_addChannel_74 : decode cX5_addChannel 74 = .ok (.iload_n 2, 1) := by decide +kernel
theorem dX5_addChannel_75 : decode cX5_addChannel 75 = .ok (.ireturn, 1) := by decide +kernel
theorem dX5_addFiber_0 : decode cX5_addFiber 0 = .ok (.aload_n 0, 1) := by decide +kernel
theorem dX5_addFiber_1 : decode cX5_addFiber 1 = .ok (.getfield 10, 3) := by decide +kernel
theorem dX5_addFiber_4 : decode cX5_addFiber 4 = .ok (.getfield 44, 3) := by decide +kernel
theorem dX5_addFiber_7 : decode cX5_addFiber 7 = .ok (.bipush 8, 2) := by decide +kernel
theorem dX5_addFiber_9 : decode cX5_addFiber 9 = .ok (.if_icmp .lt 13, 3) := by decide +kernel
theorem dX5_addFiber_12 : decode cX5_addFiber 12 = .ok (.new 30, 3) := by decide +kernel
theorem dX5_addFiber_15 : decode cX5_addFiber 15 = .ok (.dup, 1) := by decide +kernel
theorem dX5_addFiber_16 : decode cX5_addFiber 16 = .ok (.ldc 47, 2) := by decide +kernel
theorem dX5_addFiber_18 : decode cX5_addFiber 18 = .ok (.invokespecial 34, 3) := by decide +kernel
theorem dX5_addFiber_21 : decode cX5_addFiber 21 = .ok (.athrow, 1) := by decide +kernel
theorem dX5_addFiber_22 : decode cX5_addFiber 22 = .ok (.aload_n 0, 1) := by decide +kernel
theorem dX5_addFiber_23 : decode cX5_addFiber 23 = .ok (.getfield 10, 3) := by decide +kernel
theorem dX5_addFiber_26 : decode cX5_addFiber 26 = .ok (.getfield 44, 3) := by decide +kernel
theorem dX5_addFiber_29 : decode cX5_addFiber 29 = .ok (.istore_n 1, 1) := by decide +kernel
theorem dX5_addFiber_30 : decode cX5_addFiber 30 = .ok (.aload_n 0, 1) := by decide +kernel
theorem dX5_addFiber_31 : decode cX5_addFiber 31 = .ok (.getfield 10, 3) := by decide +kernel
theorem dX5_addFiber_34 : decode cX5_addFiber 34 = .ok (.dup, 1) := by decide +kernel
theorem dX5_addFiber_35 : decode cX5_addFiber 35 = .ok (.getfield 44, 3) := by decide +kernel
theorem dX5_addFiber_38 : decode cX5_addFiber 38 = .ok (.iconst 1, 1) := by decide +kernel
theorem dX5_addFiber_39 : decode cX5_addFiber 39 = .ok (.iadd, 1) := by decide +kernel
theorem dX5_addFiber_40 : decode cX5_addFiber 40 = .ok (.putfield 44, 3) := by decide +kernel
theorem dX5_addFiber_43 : decode cX5_addFiber 43 = .ok (.iload_n 1, 1) := by decide +kernel
theorem dX5_addFiber_44 : decode cX5_addFiber 44 = .ok (.ireturn, 1) := by decide +kernel
theorem dX5_addStep_0 : decode cX5_addStep 0 = .ok (.aload_n 0, 1) := by decide +kernel
theorem dX5_addStep_1 : decode cX5_addStep 1 = .ok (.iload_n 1, 1) := by decide +kernel
theorem dX5_addStep_2 : decode cX5_addStep 2 = .ok (.invokevirtual 49, 3) := by decide +kernel
theorem dX5_addStep_5 : decode cX5_addStep 5 = .ok (.aload_n 0, 1) := by decide +kernel
theorem dX5_addStep_6 : decode cX5_addStep 6 = .ok (.iload_n 1, 1) := by decide +kernel
theorem dX5_addStep_7 : decode cX5_addStep 7 = .ok (.iload_n 2, 1) := by decide +kernel
theorem dX5_addStep_8 : decode cX5_addStep 8 = .ok (.iload_n 3, 1) := by decide +kernel
theorem dX5_addStep_9 : decode cX5_addStep 9 = .ok (.iload 4, 2) := by decide +kernel
theorem dX5_addStep_11 : decode cX5_addStep 11 = .ok (.invokevirtual 53, 3) := by decide +kernel
theorem dX5_addStep_14 : decode cX5_addStep 14 = .ok (.ifCond .ne 13, 3) := by decide +kernel
theorem dX5_addStep_17 : decode cX5_addStep 17 = .ok (.new 19, 3) := by decide +kernel
theorem dX5_addStep_20 : decode cX5_addStep 20 = .ok (.dup, 1) := by decide +kernel
theorem dX5_addStep_21 : decode cX5_addStep 21 = .ok (.ldc 57, 2) := by decide +kernel
theorem dX5_addStep_23 : decode cX5_addStep 23 = .ok (.invokespecial 23, 3) := by decide +kernel
theorem dX5_addStep_26 : decode cX5_addStep 26 = .ok (.athrow, 1) := by decide +kernel
theorem dX5_addStep_27 : decode cX5_addStep 27 = .ok (.aload_n 0, 1) := by decide +kernel
theorem dX5_addStep_28 : decode cX5_addStep 28 = .ok (.getfield 10, 3) := by decide +kernel
theorem dX5_addStep_31 : decode cX5_addStep 31 = .ok (.iload_n 1, 1) := by decide +kernel
theorem dX5_addStep_32 : decode cX5_addStep 32 = .ok (.invokevirtual 59, 3) := by decide +kernel
theorem dX5_addStep_35 : decode cX5_addStep 35 = .ok (.astore 5, 2) := by decide +kernel
theorem dX5_addStep_37 : decode cX5_addStep 37 = .ok (.aload 5, 2) := by decide +kernel
theorem dX5_addStep_39 : decode cX5_addStep 39 = .ok (.getfield 63, 3) := by decide +kernel
theorem dX5_addStep_42 : decode cX5_addStep 42 = .ok (.bipush 12, 2) := by decide +kernel
theorem dX5_addStep_44 : decode cX5_addStep 44 = .ok (.if_icmp .lt 13, 3) := by decide +kernel
theorem dX5_addStep_47 : decode cX5_addStep 47 = .ok (.new 30, 3) := by decide +kernel
theorem dX5_addStep_50 : decode cX5_addStep 50 = .ok (.dup, 1) := by decide +kernel
theorem dX5_addStep_51 : decode cX5_addStep 51 = .ok (.ldc 68, 2) := by decide +kernel
theorem dX5_addStep_53 : decode cX5_addStep 53 = .ok (.invokespecial 34, 3) := by decide +kernel
theorem dX5_addStep_56 : decode cX5_addStep 56 = .ok (.athrow, 1) := by decide +kernel
theorem dX5_addStep_57 : decode cX5_addStep 57 = .ok (.aload 5, 2) := by decide +kernel
theorem dX5_addStep_59 : decode cX5_addStep 59 = .ok (.getfield 63, 3) := by decide +kernel
theorem dX5_addStep_62 : decode cX5_addStep 62 = .ok (.istore 6, 2) := by decide +kernel
theorem dX5_addStep_64 : decode cX5_addStep 64 = .ok (.aload 5, 2) := by decide +kernel
theorem dX5_addStep_66 : decode cX5_addStep 66 = .ok (.iload 6, 2) := by decide +kernel
theorem dX5_addStep_68 : decode cX5_addStep 68 = .ok (.invokevirtual 70, 3) := by decide +kernel
theorem dX5_addStep_71 : decode cX5_addStep 71 = .ok (.iload_n 2, 1) := by decide +kernel
theorem dX5_addStep_72 : decode cX5_addStep 72 = .ok (.iload_n 3, 1) := by decide +kernel
theorem dX5_addStep_73 : decode cX5_addStep 73 = .ok (.iload 4, 2) := by decide +kernel
theorem dX5_addStep_75 : decode cX5_addStep 75 = .ok (.invokevirtual 74, 3) := by decide +kernel
theorem dX5_addStep_78 : decode cX5_addStep 78 = .ok (.aload 5, 2) := by decide +kernel
theorem dX5_addStep_80 : decode cX5_addStep 80 = .ok (.dup, 1) := by decide +kernel
theorem dX5_addStep_81 : decode cX5_addStep 81 = .ok (.getfield 63, 3) := by decide +kernel
theorem dX5_addStep_84 : decode cX5_addStep 84 = .ok (.iconst 1, 1) := by decide +kernel
theorem dX5_addStep_85 : decode cX5_addStep 85 = .ok (.iadd, 1) := by decide +kernel
theorem dX5_addStep_86 : decode cX5_addStep 86 = .ok (.putfield 63, 3) := by decide +kernel
theorem dX5_addStep_89 : decode cX5_addStep 89 = .ok (.aload 5, 2) := by decide +kernel
theorem dX5_addStep_91 : decode cX5_addStep 91 = .ok (.getfield 80, 3) := by decide +kernel
theorem dX5_addStep_94 : decode cX5_addStep 94 = .ok (.iconst 5, 1) := by decide +kernel
theorem dX5_addStep_95 : decode cX5_addStep 95 = .ok (.if_icmp .ne 12, 3) := by decide +kernel
theorem dX5_addStep_98 : decode cX5_addStep 98 = .ok (.aload_n 0, 1) := by decide +kernel
theorem dX5_addStep_99 : decode cX5_addStep 99 = .ok (.getfield 10, 3) := by decide +kernel
theorem dX5_addStep_102 : decode cX5_addStep 102 = .ok (.aload 5, 2) := by decide +kernel
theorem dX5_addStep_104 : decode cX5_addStep 104 = .ok (.invokevirtual 83, 3) := by decide +kernel
theorem dX5_addStep_107 : decode cX5_addStep 107 = .ok (.iload 6, 2) := by decide +kernel
theorem dX5_addStep_109 : decode cX5_addStep 109 = .ok (.ireturn, 1) := by decide +kernel
theorem dX5_pour_0 : decode cX5_pour 0 = .ok (.aload_n 0, 1) := by decide +kernel
theorem dX5_pour_1 : decode cX5_pour 1 = .ok (.iload_n 1, 1) := by decide +kernel
theorem dX5_pour_2 : decode cX5_pour 2 = .ok (.invokevirtual 87, 3) := by decide +kernel
theorem dX5_pour_5 : decode cX5_pour 5 = .ok (.aload_n 0, 1) := by decide +kernel
theorem dX5_pour_6 : decode cX5_pour 6 = .ok (.iload_n 2, 1) := by decide +kernel
theorem dX5_pour_7 : decode cX5_pour 7 = .ok (.invokevirtual 90, 3) := by decide +kernel
theorem dX5_pour_10 : decode cX5_pour 10 = .ok (.ifCond .ne 13, 3) := by decide +kernel
theorem dX5_pour_13 : decode cX5_pour 13 = .ok (.new 19, 3) := by decide +kernel
theorem dX5_pour_16 : decode cX5_pour 16 = .ok (.dup, 1) := by decide +kernel
theorem dX5_pour_17 : decode cX5_pour 17 = .ok (.ldc 94, 2) := by decide +kernel
theorem dX5_pour_19 : decode cX5_pour 19 = .ok (.invokespecial 23, 3) := by decide +kernel
theorem dX5_pour_22 : decode cX5_pour 22 = .ok (.athrow, 1) := by decide +kernel
theorem dX5_pour_23 : decode cX5_pour 23 = .ok (.aload_n 0, 1) := by decide +kernel
theorem dX5_pour_24 : decode cX5_pour 24 = .ok (.getfield 10, 3) := by decide +kernel
theorem dX5_pour_27 : decode cX5_pour 27 = .ok (.iload_n 1, 1) := by decide +kernel
theorem dX5_pour_28 : decode cX5_pour 28 = .ok (.invokevirtual 35, 3) := by decide +kernel
theorem dX5_pour_31 : decode cX5_pour 31 = .ok (.astore_n 3, 1) := by decide +kernel
theorem dX5_pour_32 : decode cX5_pour 32 = .ok (.aload_n 3, 1) := by decide +kernel
theorem dX5_pour_33 : decode cX5_pour 33 = .ok (.invokevirtual 96, 3) := by decide +kernel
theorem dX5_pour_36 : decode cX5_pour 36 = .ok (.ifCond .ne 13, 3) := by decide +kernel
theorem dX5_pour_39 : decode cX5_pour 39 = .ok (.new 30, 3) := by decide +kernel
theorem dX5_pour_42 : decode cX5_pour 42 = .ok (.dup, 1) := by decide +kernel
theorem dX5_pour_43 : decode cX5_pour 43 = .ok (.ldc 100, 2) := by decide +kernel
theorem dX5_pour_45 : decode cX5_pour 45 = .ok (.invokespecial 34, 3) := by decide +kernel
theorem dX5_pour_48 : decode cX5_pour 48 = .ok (.athrow, 1) := by decide +kernel
theorem dX5_pour_49 : decode cX5_pour 49 = .ok (.aload_n 3, 1) := by decide +kernel
theorem dX5_pour_50 : decode cX5_pour 50 = .ok (.getfield 102, 3) := by decide +kernel
theorem dX5_pour_53 : decode cX5_pour 53 = .ok (.iload_n 2, 1) := by decide +kernel
theorem dX5_pour_54 : decode cX5_pour 54 = .ok (.invokevirtual 106, 3) := by decide +kernel
theorem dX5_pour_57 : decode cX5_pour 57 = .ok (.aload_n 0, 1) := by decide +kernel
theorem dX5_pour_58 : decode cX5_pour 58 = .ok (.getfield 10, 3) := by decide +kernel
theorem dX5_pour_61 : decode cX5_pour 61 = .ok (.aload_n 3, 1) := by decide +kernel
theorem dX5_pour_62 : decode cX5_pour 62 = .ok (.getfield 111, 3) := by decide +kernel
theorem dX5_pour_65 : decode cX5_pour 65 = .ok (.invokevirtual 114, 3) := by decide +kernel
theorem dX5_pour_68 : decode cX5_pour 68 = .ok (.aload_n 3, 1) := by decide +kernel
theorem dX5_pour_69 : decode cX5_pour 69 = .ok (.getfield 102, 3) := by decide +kernel
theorem dX5_pour_72 : decode cX5_pour 72 = .ok (.getfield 118, 3) := by decide +kernel
theorem dX5_pour_75 : decode cX5_pour 75 = .ok (.ireturn, 1) := by decide +kernel
theorem dX5_run_0 : decode cX5_run 0 = .ok (.aload_n 0, 1) := by decide +kernel
theorem dX5_run_1 : decode cX5_run 1 = .ok (.iload_n 1, 1) := by decide +kernel
theorem dX5_run_2 : decode cX5_run 2 = .ok (.invokevirtual 121, 3) := by decide +kernel
theorem dX5_run_5 : decode cX5_run 5 = .ok (.aload_n 0, 1) := by decide +kernel
theorem dX5_run_6 : decode cX5_run 6 = .ok (.getfield 10, 3) := by decide +kernel
theorem dX5_run_9 : decode cX5_run 9 = .ok (.getfield 124, 3) := by decide +kernel
theorem dX5_run_12 : decode cX5_run 12 = .ok (.istore_n 2, 1) := by decide +kernel
theorem dX5_run_13 : decode cX5_run 13 = .ok (.iconst 0, 1) := by decide +kernel
theorem dX5_run_14 : decode cX5_run 14 = .ok (.istore_n 3, 1) := by decide +kernel
theorem dX5_run_15 : decode cX5_run 15 = .ok (.iload_n 3, 1) := by decide +kernel
theorem dX5_run_16 : decode cX5_run 16 = .ok (.iload_n 1, 1) := by decide +kernel
theorem dX5_run_17 : decode cX5_run 17 = .ok (.if_icmp .ge 16, 3) := by decide +kernel
theorem dX5_run_20 : decode cX5_run 20 = .ok (.aload_n 0, 1) := by decide +kernel
theorem dX5_run_21 : decode cX5_run 21 = .ok (.getfield 10, 3) := by decide +kernel
theorem dX5_run_24 : decode cX5_run 24 = .ok (.invokevirtual 127, 3) := by decide +kernel
theorem dX5_run_27 : decode cX5_run 27 = .ok (.iinc 3 1, 3) := by decide +kernel
theorem dX5_run_30 : decode cX5_run 30 = .ok (.goto (-15), 3) := by decide +kernel
theorem dX5_run_33 : decode cX5_run 33 = .ok (.aload_n 0, 1) := by decide +kernel
theorem dX5_run_34 : decode cX5_run 34 = .ok (.getfield 10, 3) := by decide +kernel
theorem dX5_run_37 : decode cX5_run 37 = .ok (.getfield 124, 3) := by decide +kernel
theorem dX5_run_40 : decode cX5_run 40 = .ok (.iload_n 2, 1) := by decide +kernel
theorem dX5_run_41 : decode cX5_run 41 = .ok (.isub, 1) := by decide +kernel
theorem dX5_run_42 : decode cX5_run 42 = .ok (.ireturn, 1) := by decide +kernel
theorem dX5_time_0 : decode cX5_time 0 = .ok (.aload_n 0, 1) := by decide +kernel
theorem dX5_time_1 : decode cX5_time 1 = .ok (.getfield 10, 3) := by decide +kernel
theorem dX5_time_4 : decode cX5_time 4 = .ok (.getfield 130, 3) := by decide +kernel
theorem dX5_time_7 : decode cX5_time 7 = .ok (.ireturn, 1) := by decide +kernel
theorem dX5_channels_0 : decode cX5_channels 0 = .ok (.aload_n 0, 1) := by decide +kernel
theorem dX5_channels_1 : decode cX5_channels 1 = .ok (.getfield 10, 3) := by decide +kernel
theorem dX5_channels_4 : decode cX5_channels 4 = .ok (.getfield 26, 3) := by decide +kernel
theorem dX5_channels_7 : decode cX5_channels 7 = .ok (.ireturn, 1) := by decide +kernel
theorem dX5_fibers_0 : decode cX5_fibers 0 = .ok (.aload_n 0, 1) := by decide +kernel
theorem dX5_fibers_1 : decode cX5_fibers 1 = .ok (.getfield 10, 3) := by decide +kernel
theorem dX5_fibers_4 : decode cX5_fibers 4 = .ok (.getfield 44, 3) := by decide +kernel
theorem dX5_fibers_7 : decode cX5_fibers 7 = .ok (.ireturn, 1) := by decide +kernel
theorem dX5_done_0 : decode cX5_done 0 = .ok (.aload_n 0, 1) := by decide +kernel
theorem dX5_done_1 : decode cX5_done 1 = .ok (.getfield 10, 3) := by decide +kernel
theorem dX5_done_4 : decode cX5_done 4 = .ok (.invokevirtual 133, 3) := by decide +kernel
theorem dX5_done_7 : decode cX5_done 7 = .ok (.ireturn, 1) := by decide +kernel
theorem dX5_idleTurns_0 : decode cX5_idleTurns 0 = .ok (.aload_n 0, 1) := by decide +kernel
theorem dX5_idleTurns_1 : decode cX5_idleTurns 1 = .ok (.getfield 10, 3) := by decide +kernel
theorem dX5_idleTurns_4 : decode cX5_idleTurns 4 = .ok (.getfield 124, 3) := by decide +kernel
theorem dX5_idleTurns_7 : decode cX5_idleTurns 7 = .ok (.ireturn, 1) := by decide +kernel
theorem dX5_next_0 : decode cX5_next 0 = .ok (.aload_n 0, 1) := by decide +kernel
theorem dX5_next_1 : decode cX5_next 1 = .ok (.getfield 10, 3) := by decide +kernel
theorem dX5_next_4 : decode cX5_next 4 = .ok (.getfield 137, 3) := by decide +kernel
theorem dX5_next_7 : decode cX5_next 7 = .ok (.iconst 0, 1) := by decide +kernel
theorem dX5_next_8 : decode cX5_next 8 = .ok (.invokevirtual 140, 3) := by decide +kernel
theorem dX5_next_11 : decode cX5_next 11 = .ok (.ireturn, 1) := by decide +kernel
theorem dX5_isStuck_0 : decode cX5_isStuck 0 = .ok (.aload_n 0, 1) := by decide +kernel
theorem dX5_isStuck_1 : decode cX5_isStuck 1 = .ok (.getfield 10, 3) := by decide +kernel
theorem dX5_isStuck_4 : decode cX5_isStuck 4 = .ok (.invokevirtual 144, 3) := by decide +kernel
theorem dX5_isStuck_7 : decode cX5_isStuck 7 = .ok (.ifCond .eq 17, 3) := by decide +kernel
theorem dX5_isStuck_10 : decode cX5_isStuck 10 = .ok (.aload_n 0, 1) := by decide +kernel
theorem dX5_isStuck_11 : decode cX5_isStuck 11 = .ok (.getfield 10, 3) := by decide +kernel
theorem dX5_isStuck_14 : decode cX5_isStuck 14 = .ok (.invokevirtual 147, 3) := by decide +kernel
theorem dX5_isStuck_17 : decode cX5_isStuck 17 = .ok (.ifCond .ne 7, 3) := by decide +kernel
theorem dX5_isStuck_20 : decode cX5_isStuck 20 = .ok (.iconst 1, 1) := by decide +kernel
theorem dX5_isStuck_21 : decode cX5_isStuck 21 = .ok (.goto 4, 3) := by decide +kernel
theorem dX5_isStuck_24 : decode cX5_isStuck 24 = .ok (.iconst 0, 1) := by decide +kernel
theorem dX5_isStuck_25 : decode cX5_isStuck 25 = .ok (.ireturn, 1) := by decide +kernel
theorem dX5_held_0 : decode cX5_held 0 = .ok (.aload_n 0, 1) := by decide +kernel
theorem dX5_held_1 : decode cX5_held 1 = .ok (.iload_n 1, 1) := by decide +kernel
theorem dX5_held_2 : decode cX5_held 2 = .ok (.invokevirtual 87, 3) := by decide +kernel
theorem dX5_held_5 : decode cX5_held 5 = .ok (.aload_n 0, 1) := by decide +kernel
theorem dX5_held_6 : decode cX5_held 6 = .ok (.getfield 10, 3) := by decide +kernel
theorem dX5_held_9 : decode cX5_held 9 = .ok (.iload_n 1, 1) := by decide +kernel
theorem dX5_held_10 : decode cX5_held 10 = .ok (.invokevirtual 35, 3) := by decide +kernel
theorem dX5_held_13 : decode cX5_held 13 = .ok (.getfield 102, 3) := by decide +kernel
theorem dX5_held_16 : decode cX5_held 16 = .ok (.getfield 118, 3) := by decide +kernel
theorem dX5_held_19 : decode cX5_held 19 = .ok (.ireturn, 1) := by decide +kernel
theorem dX5_valueAt_0 : decode cX5_valueAt 0 = .ok (.aload_n 0, 1) := by decide +kernel
theorem dX5_valueAt_1 : decode cX5_valueAt 1 = .ok (.iload_n 1, 1) := by decide +kernel
theorem dX5_valueAt_2 : decode cX5_valueAt 2 = .ok (.invokevirtual 87, 3) := by decide +kernel
theorem dX5_valueAt_5 : decode cX5_valueAt 5 = .ok (.aload_n 0, 1) := by decide +kernel
theorem dX5_valueAt_6 : decode cX5_valueAt 6 = .ok (.getfield 10, 3) := by decide +kernel
theorem dX5_valueAt_9 : decode cX5_valueAt 9 = .ok (.iload_n 1, 1) := by decide +kernel
theorem dX5_valueAt_10 : decode cX5_valueAt 10 = .ok (.invokevirtual 35, 3) := by decide +kernel
theorem dX5_valueAt_13 : decode cX5_valueAt 13 = .ok (.getfield 102, 3) := by decide +kernel
theorem dX5_valueAt_16 : decode cX5_valueAt 16 = .ok (.astore_n 3, 1) := by decide +kernel
theorem dX5_valueAt_17 : decode cX5_valueAt 17 = .ok (.iload_n 2, 1) := by decide +kernel
theorem dX5_valueAt_18 : decode cX5_valueAt 18 = .ok (.ifCond .lt 11, 3) := by decide +kernel
theorem dX5_valueAt_21 : decode cX5_valueAt 21 = .ok (.iload_n 2, 1) := by decide +kernel
theorem dX5_valueAt_22 : decode cX5_valueAt 22 = .ok (.aload_n 3, 1) := by decide +kernel
theorem dX5_valueAt_23 : decode cX5_valueAt 23 = .ok (.getfield 118, 3) := by decide +kernel
theorem dX5_valueAt_26 : decode cX5_valueAt 26 = .ok (.if_icmp .lt 13, 3) := by decide +kernel
theorem dX5_valueAt_29 : decode cX5_valueAt 29 = .ok (.new 150, 3) := by decide +kernel
theorem dX5_valueAt_32 : decode cX5_valueAt 32 = .ok (.dup, 1) := by decide +kernel
theorem dX5_valueAt_33 : decode cX5_valueAt 33 = .ok (.ldc 152, 2) := by decide +kernel
theorem dX5_valueAt_35 : decode cX5_valueAt 35 = .ok (.invokespecial 154, 3) := by decide +kernel
theorem dX5_valueAt_38 : decode cX5_valueAt 38 = .ok (.athrow, 1) := by decide +kernel
theorem dX5_valueAt_39 : decode cX5_valueAt 39 = .ok (.aload_n 3, 1) := by decide +kernel
theorem dX5_valueAt_40 : decode cX5_valueAt 40 = .ok (.iload_n 2, 1) := by decide +kernel
theorem dX5_valueAt_41 : decode cX5_valueAt 41 = .ok (.invokevirtual 140, 3) := by decide +kernel
theorem dX5_valueAt_44 : decode cX5_valueAt 44 = .ok (.ireturn, 1) := by decide +kernel
theorem dX5_sendersAt_0 : decode cX5_sendersAt 0 = .ok (.aload_n 0, 1) := by decide +kernel
theorem dX5_sendersAt_1 : decode cX5_sendersAt 1 = .ok (.iload_n 1, 1) := by decide +kernel
theorem dX5_sendersAt_2 : decode cX5_sendersAt 2 = .ok (.invokevirtual 87, 3) := by decide +kernel
theorem dX5_sendersAt_5 : decode cX5_sendersAt 5 = .ok (.aload_n 0, 1) := by decide +kernel
theorem dX5_sendersAt_6 : decode cX5_sendersAt 6 = .ok (.getfield 10, 3) := by decide +kernel
theorem dX5_sendersAt_9 : decode cX5_sendersAt 9 = .ok (.iload_n 1, 1) := by decide +kernel
theorem dX5_sendersAt_10 : decode cX5_sendersAt 10 = .ok (.invokevirtual 35, 3) := by decide +kernel
theorem dX5_sendersAt_13 : decode cX5_sendersAt 13 = .ok (.getfield 155, 3) := by decide +kernel
theorem dX5_sendersAt_16 : decode cX5_sendersAt 16 = .ok (.getfield 118, 3) := by decide +kernel
theorem dX5_sendersAt_19 : decode cX5_sendersAt 19 = .ok (.ireturn, 1) := by decide +kernel
theorem dX5_takersAt_0 : decode cX5_takersAt 0 = .ok (.aload_n 0, 1) := by decide +kernel
theorem dX5_takersAt_1 : decode cX5_takersAt 1 = .ok (.iload_n 1, 1) := by decide +kernel
theorem dX5_takersAt_2 : decode cX5_takersAt 2 = .ok (.invokevirtual 87, 3) := by decide +kernel
theorem dX5_takersAt_5 : decode cX5_takersAt 5 = .ok (.aload_n 0, 1) := by decide +kernel
theorem dX5_takersAt_6 : decode cX5_takersAt 6 = .ok (.getfield 10, 3) := by decide +kernel
theorem dX5_takersAt_9 : decode cX5_takersAt 9 = .ok (.iload_n 1, 1) := by decide +kernel
theorem dX5_takersAt_10 : decode cX5_takersAt 10 = .ok (.invokevirtual 35, 3) := by decide +kernel
theorem dX5_takersAt_13 : decode cX5_takersAt 13 = .ok (.getfield 111, 3) := by decide +kernel
theorem dX5_takersAt_16 : decode cX5_takersAt 16 = .ok (.getfield 118, 3) := by decide +kernel
theorem dX5_takersAt_19 : decode cX5_takersAt 19 = .ok (.ireturn, 1) := by decide +kernel
theorem dX5_stateOf_0 : decode cX5_stateOf 0 = .ok (.aload_n 0, 1) := by decide +kernel
theorem dX5_stateOf_1 : decode cX5_stateOf 1 = .ok (.iload_n 1, 1) := by decide +kernel
theorem dX5_stateOf_2 : decode cX5_stateOf 2 = .ok (.invokevirtual 49, 3) := by decide +kernel
theorem dX5_stateOf_5 : decode cX5_stateOf 5 = .ok (.aload_n 0, 1) := by decide +kernel
theorem dX5_stateOf_6 : decode cX5_stateOf 6 = .ok (.getfield 10, 3) := by decide +kernel
theorem dX5_stateOf_9 : decode cX5_stateOf 9 = .ok (.iload_n 1, 1) := by decide +kernel
theorem dX5_stateOf_10 : decode cX5_stateOf 10 = .ok (.invokevirtual 59, 3) := by decide +kernel
theorem dX5_stateOf_13 : decode cX5_stateOf 13 = .ok (.getfield 80, 3) := by decide +kernel
theorem dX5_stateOf_16 : decode cX5_stateOf 16 = .ok (.ireturn, 1) := by decide +kernel
theorem dX5_placeOf_0 : decode cX5_placeOf 0 = .ok (.aload_n 0, 1) := by decide +kernel
theorem dX5_placeOf_1 : decode cX5_placeOf 1 = .ok (.iload_n 1, 1) := by decide +kernel
theorem dX5_placeOf_2 : decode cX5_placeOf 2 = .ok (.invokevirtual 49, 3) := by decide +kernel
theorem dX5_placeOf_5 : decode cX5_placeOf 5 = .ok (.aload_n 0, 1) := by decide +kernel
theorem dX5_placeOf_6 : decode cX5_placeOf 6 = .ok (.getfield 10, 3) := by decide +kernel
theorem dX5_placeOf_9 : decode cX5_placeOf 9 = .ok (.iload_n 1, 1) := by decide +kernel
theorem dX5_placeOf_10 : decode cX5_placeOf 10 = .ok (.invokevirtual 59, 3) := by decide +kernel
theorem dX5_placeOf_13 : decode cX5_placeOf 13 = .ok (.getfield 158, 3) := by decide +kernel
theorem dX5_placeOf_16 : decode cX5_placeOf 16 = .ok (.ireturn, 1) := by decide +kernel
theorem dX5_sumOf_0 : decode cX5_sumOf 0 = .ok (.aload_n 0, 1) := by decide +kernel
theorem dX5_sumOf_1 : decode cX5_sumOf 1 = .ok (.iload_n 1, 1) := by decide +kernel
theorem dX5_sumOf_2 : decode cX5_sumOf 2 = .ok (.invokevirtual 49, 3) := by decide +kernel
theorem dX5_sumOf_5 : decode cX5_sumOf 5 = .ok (.aload_n 0, 1) := by decide +kernel
theorem dX5_sumOf_6 : decode cX5_sumOf 6 = .ok (.getfield 10, 3) := by decide +kernel
theorem dX5_sumOf_9 : decode cX5_sumOf 9 = .ok (.iload_n 1, 1) := by decide +kernel
theorem dX5_sumOf_10 : decode cX5_sumOf 10 = .ok (.invokevirtual 59, 3) := by decide +kernel
theorem dX5_sumOf_13 : decode cX5_sumOf 13 = .ok (.getfield 161, 3) := by decide +kernel
theorem dX5_sumOf_16 : decode cX5_sumOf 16 = .ok (.ireturn, 1) := by decide +kernel
theorem dX5_stepsDone_0 : decode cX5_stepsDone 0 = .ok (.aload_n 0, 1) := by decide +kernel
theorem dX5_stepsDone_1 : decode cX5_stepsDone 1 = .ok (.iload_n 1, 1) := by decide +kernel
theorem dX5_stepsDone_2 : decode cX5_stepsDone 2 = .ok (.invokevirtual 49, 3) := by decide +kernel
theorem dX5_stepsDone_5 : decode cX5_stepsDone 5 = .ok (.aload_n 0, 1) := by decide +kernel
theorem dX5_stepsDone_6 : decode cX5_stepsDone 6 = .ok (.getfield 10, 3) := by decide +kernel
theorem dX5_stepsDone_9 : decode cX5_stepsDone 9 = .ok (.iload_n 1, 1) := by decide +kernel
theorem dX5_stepsDone_10 : decode cX5_stepsDone 10 = .ok (.invokevirtual 59, 3) := by decide +kernel
theorem dX5_stepsDone_13 : decode cX5_stepsDone 13 = .ok (.getfield 164, 3) := by decide +kernel
theorem dX5_stepsDone_16 : decode cX5_stepsDone 16 = .ok (.ireturn, 1) := by decide +kernel
theorem dX5_turnsOf_0 : decode cX5_turnsOf 0 = .ok (.aload_n 0, 1) := by decide +kernel
theorem dX5_turnsOf_1 : decode cX5_turnsOf 1 = .ok (.iload_n 1, 1) := by decide +kernel
theorem dX5_turnsOf_2 : decode cX5_turnsOf 2 = .ok (.invokevirtual 49, 3) := by decide +kernel
theorem dX5_turnsOf_5 : decode cX5_turnsOf 5 = .ok (.aload_n 0, 1) := by decide +kernel
theorem dX5_turnsOf_6 : decode cX5_turnsOf 6 = .ok (.getfield 10, 3) := by decide +kernel
theorem dX5_turnsOf_9 : decode cX5_turnsOf 9 = .ok (.iload_n 1, 1) := by decide +kernel
theorem dX5_turnsOf_10 : decode cX5_turnsOf 10 = .ok (.invokevirtual 59, 3) := by decide +kernel
theorem dX5_turnsOf_13 : decode cX5_turnsOf 13 = .ok (.getfield 167, 3) := by decide +kernel
theorem dX5_turnsOf_16 : decode cX5_turnsOf 16 = .ok (.ireturn, 1) := by decide +kernel
theorem dX5_placeInLine_0 : decode cX5_placeInLine 0 = .ok (.aload_n 0, 1) := by decide +kernel
theorem dX5_placeInLine_1 : decode cX5_placeInLine 1 = .ok (.iload_n 1, 1) := by decide +kernel
theorem dX5_placeInLine_2 : decode cX5_placeInLine 2 = .ok (.invokevirtual 49, 3) := by decide +kernel
theorem dX5_placeInLine_5 : decode cX5_placeInLine 5 = .ok (.aload_n 0, 1) := by decide +kernel
theorem dX5_placeInLine_6 : decode cX5_placeInLine 6 = .ok (.getfield 10, 3) := by decide +kernel
theorem dX5_placeInLine_9 : decode cX5_placeInLine 9 = .ok (.getfield 137, 3) := by decide +kernel
theorem dX5_placeInLine_12 : decode cX5_placeInLine 12 = .ok (.iload_n 1, 1) := by decide +kernel
theorem dX5_placeInLine_13 : decode cX5_placeInLine 13 = .ok (.invokevirtual 170, 3) := by decide +kernel
theorem dX5_placeInLine_16 : decode cX5_placeInLine 16 = .ok (.ireturn, 1) := by decide +kernel
theorem dX5_turnsUntilDone_0 : decode cX5_turnsUntilDone 0 = .ok (.aload_n 0, 1) := by decide +kernel
theorem dX5_turnsUntilDone_1 : decode cX5_turnsUntilDone 1 = .ok (.iload_n 1, 1) := by decide +kernel
theorem dX5_turnsUntilDone_2 : decode cX5_turnsUntilDone 2 = .ok (.invokevirtual 49, 3) := by decide +kernel
theorem dX5_turnsUntilDone_5 : decode cX5_turnsUntilDone 5 = .ok (.aload_n 0, 1) := by decide +kernel
theorem dX5_turnsUntilDone_6 : decode cX5_turnsUntilDone 6 = .ok (.getfield 16, 3) := by decide +kernel
theorem dX5_turnsUntilDone_9 : decode cX5_turnsUntilDone 9 = .ok (.aload_n 0, 1) := by decide +kernel
theorem dX5_turnsUntilDone_10 : decode cX5_turnsUntilDone 10 = .ok (.getfield 10, 3) := by decide +kernel
theorem dX5_turnsUntilDone_13 : decode cX5_turnsUntilDone 13 = .ok (.invokevirtual 173, 3) := by decide +kernel
theorem dX5_turnsUntilDone_16 : decode cX5_turnsUntilDone 16 = .ok (.aload_n 0, 1) := by decide +kernel
theorem dX5_turnsUntilDone_17 : decode cX5_turnsUntilDone 17 = .ok (.getfield 16, 3) := by decide +kernel
theorem dX5_turnsUntilDone_20 : decode cX5_turnsUntilDone 20 = .ok (.iload_n 1, 1) := by decide +kernel
theorem dX5_turnsUntilDone_21 : decode cX5_turnsUntilDone 21 = .ok (.invokevirtual 59, 3) := by decide +kernel
theorem dX5_turnsUntilDone_24 : decode cX5_turnsUntilDone 24 = .ok (.astore_n 2, 1) := by decide +kernel
theorem dX5_turnsUntilDone_25 : decode cX5_turnsUntilDone 25 = .ok (.iconst 0, 1) := by decide +kernel
theorem dX5_turnsUntilDone_26 : decode cX5_turnsUntilDone 26 = .ok (.istore_n 3, 1) := by decide +kernel
theorem dX5_turnsUntilDone_27 : decode cX5_turnsUntilDone 27 = .ok (.iload_n 3, 1) := by decide +kernel
theorem dX5_turnsUntilDone_28 : decode cX5_turnsUntilDone 28 = .ok (.sipush 200, 3) := by decide +kernel
theorem dX5_turnsUntilDone_31 : decode cX5_turnsUntilDone 31 = .ok (.if_icmp .ge 34, 3) := by decide +kernel
theorem dX5_turnsUntilDone_34 : decode cX5_turnsUntilDone 34 = .ok (.aload_n 2, 1) := by decide +kernel
theorem dX5_turnsUntilDone_35 : decode cX5_turnsUntilDone 35 = .ok (.getfield 80, 3) := by decide +kernel
theorem dX5_turnsUntilDone_38 : decode cX5_turnsUntilDone 38 = .ok (.iconst 5, 1) := by decide +kernel
theorem dX5_turnsUntilDone_39 : decode cX5_turnsUntilDone 39 = .ok (.if_icmp .eq 26, 3) := by decide +kernel
theorem dX5_turnsUntilDone_42 : decode cX5_turnsUntilDone 42 = .ok (.aload_n 0, 1) := by decide +kernel
theorem dX5_turnsUntilDone_43 : decode cX5_turnsUntilDone 43 = .ok (.getfield 16, 3) := by decide +kernel
theorem dX5_turnsUntilDone_46 : decode cX5_turnsUntilDone 46 = .ok (.invokevirtual 144, 3) := by decide +kernel
theorem dX5_turnsUntilDone_49 : decode cX5_turnsUntilDone 49 = .ok (.ifCond .ne 16, 3) := by decide +kernel
theorem dX5_turnsUntilDone_52 : decode cX5_turnsUntilDone 52 = .ok (.aload_n 0, 1) := by decide +kernel
theorem dX5_turnsUntilDone_53 : decode cX5_turnsUntilDone 53 = .ok (.getfield 16, 3) := by decide +kernel
theorem dX5_turnsUntilDone_56 : decode cX5_turnsUntilDone 56 = .ok (.invokevirtual 127, 3) := by decide +kernel
theorem dX5_turnsUntilDone_59 : decode cX5_turnsUntilDone 59 = .ok (.iinc 3 1, 3) := by decide +kernel
theorem dX5_turnsUntilDone_62 : decode cX5_turnsUntilDone 62 = .ok (.goto (-35), 3) := by decide +kernel
theorem dX5_turnsUntilDone_65 : decode cX5_turnsUntilDone 65 = .ok (.aload_n 2, 1) := by decide +kernel
theorem dX5_turnsUntilDone_66 : decode cX5_turnsUntilDone 66 = .ok (.getfield 80, 3) := by decide +kernel
theorem dX5_turnsUntilDone_69 : decode cX5_turnsUntilDone 69 = .ok (.iconst 5, 1) := by decide +kernel
theorem dX5_turnsUntilDone_70 : decode cX5_turnsUntilDone 70 = .ok (.if_icmp .ne 7, 3) := by decide +kernel
theorem dX5_turnsUntilDone_73 : decode cX5_turnsUntilDone 73 = .ok (.iload_n 3, 1) := by decide +kernel
theorem dX5_turnsUntilDone_74 : decode cX5_turnsUntilDone 74 = .ok (.goto 4, 3) := by decide +kernel
theorem dX5_turnsUntilDone_77 : decode cX5_turnsUntilDone 77 = .ok (.iconst (-1), 1) := by decide +kernel
theorem dX5_turnsUntilDone_78 : decode cX5_turnsUntilDone 78 = .ok (.ireturn, 1) := by decide +kernel
theorem dX5_turnsUntilStuck_0 : decode cX5_turnsUntilStuck 0 = .ok (.aload_n 0, 1) := by decide +kernel
theorem dX5_turnsUntilStuck_1 : decode cX5_turnsUntilStuck 1 = .ok (.getfield 16, 3) := by decide +kernel
theorem dX5_turnsUntilStuck_4 : decode cX5_turnsUntilStuck 4 = .ok (.aload_n 0, 1) := by decide +kernel
theorem dX5_turnsUntilStuck_5 : decode cX5_turnsUntilStuck 5 = .ok (.getfield 10, 3) := by decide +kernel
theorem dX5_turnsUntilStuck_8 : decode cX5_turnsUntilStuck 8 = .ok (.invokevirtual 173, 3) := by decide +kernel
theorem dX5_turnsUntilStuck_11 : decode cX5_turnsUntilStuck 11 = .ok (.iconst 0, 1) := by decide +kernel
theorem dX5_turnsUntilStuck_12 : decode cX5_turnsUntilStuck 12 = .ok (.istore_n 1, 1) := by decide +kernel
theorem dX5_turnsUntilStuck_13 : decode cX5_turnsUntilStuck 13 = .ok (.iload_n 1, 1) := by decide +kernel
theorem dX5_turnsUntilStuck_14 : decode cX5_turnsUntilStuck 14 = .ok (.sipush 200, 3) := by decide +kernel
theorem dX5_turnsUntilStuck_17 : decode cX5_turnsUntilStuck 17 = .ok (.if_icmp .ge 26, 3) := by decide +kernel
theorem dX5_turnsUntilStuck_20 : decode cX5_turnsUntilStuck 20 = .ok (.aload_n 0, 1) := by decide +kernel
theorem dX5_turnsUntilStuck_21 : decode cX5_turnsUntilStuck 21 = .ok (.getfield 16, 3) := by decide +kernel
theorem dX5_turnsUntilStuck_24 : decode cX5_turnsUntilStuck 24 = .ok (.invokevirtual 144, 3) := by decide +kernel
theorem dX5_turnsUntilStuck_27 : decode cX5_turnsUntilStuck 27 = .ok (.ifCond .ne 16, 3) := by decide +kernel
theorem dX5_turnsUntilStuck_30 : decode cX5_turnsUntilStuck 30 = .ok (.aload_n 0, 1) := by decide +kernel
theorem dX5_turnsUntilStuck_31 : decode cX5_turnsUntilStuck 31 = .ok (.getfield 16, 3) := by decide +kernel
theorem dX5_turnsUntilStuck_34 : decode cX5_turnsUntilStuck 34 = .ok (.invokevirtual 127, 3) := by decide +kernel
theorem dX5_turnsUntilStuck_37 : decode cX5_turnsUntilStuck 37 = .ok (.iinc 1 1, 3) := by decide +kernel
theorem dX5_turnsUntilStuck_40 : decode cX5_turnsUntilStuck 40 = .ok (.goto (-27), 3) := by decide +kernel
theorem dX5_turnsUntilStuck_43 : decode cX5_turnsUntilStuck 43 = .ok (.aload_n 0, 1) := by decide +kernel
theorem dX5_turnsUntilStuck_44 : decode cX5_turnsUntilStuck 44 = .ok (.getfield 16, 3) := by decide +kernel
theorem dX5_turnsUntilStuck_47 : decode cX5_turnsUntilStuck 47 = .ok (.invokevirtual 144, 3) := by decide +kernel
theorem dX5_turnsUntilStuck_50 : decode cX5_turnsUntilStuck 50 = .ok (.ifCond .eq 17, 3) := by decide +kernel
theorem dX5_turnsUntilStuck_53 : decode cX5_turnsUntilStuck 53 = .ok (.aload_n 0, 1) := by decide +kernel
theorem dX5_turnsUntilStuck_54 : decode cX5_turnsUntilStuck 54 = .ok (.getfield 16, 3) := by decide +kernel
theorem dX5_turnsUntilStuck_57 : decode cX5_turnsUntilStuck 57 = .ok (.invokevirtual 147, 3) := by decide +kernel
theorem dX5_turnsUntilStuck_60 : decode cX5_turnsUntilStuck 60 = .ok (.ifCond .ne 7, 3) := by decide +kernel
theorem dX5_turnsUntilStuck_63 : decode cX5_turnsUntilStuck 63 = .ok (.iload_n 1, 1) := by decide +kernel
theorem dX5_turnsUntilStuck_64 : decode cX5_turnsUntilStuck 64 = .ok (.goto 4, 3) := by decide +kernel
theorem dX5_turnsUntilStuck_67 : decode cX5_turnsUntilStuck 67 = .ok (.iconst (-1), 1) := by decide +kernel
theorem dX5_turnsUntilStuck_68 : decode cX5_turnsUntilStuck 68 = .ok (.ireturn, 1) := by decide +kernel
theorem dX5_sumIn_0 : decode cX5_sumIn 0 = .ok (.aload_n 0, 1) := by decide +kernel
theorem dX5_sumIn_1 : decode cX5_sumIn 1 = .ok (.iload_n 1, 1) := by decide +kernel
theorem dX5_sumIn_2 : decode cX5_sumIn 2 = .ok (.invokevirtual 49, 3) := by decide +kernel
theorem dX5_sumIn_5 : decode cX5_sumIn 5 = .ok (.aload_n 0, 1) := by decide +kernel
theorem dX5_sumIn_6 : decode cX5_sumIn 6 = .ok (.iload_n 2, 1) := by decide +kernel
theorem dX5_sumIn_7 : decode cX5_sumIn 7 = .ok (.invokevirtual 121, 3) := by decide +kernel
theorem dX5_sumIn_10 : decode cX5_sumIn 10 = .ok (.aload_n 0, 1) := by decide +kernel
theorem dX5_sumIn_11 : decode cX5_sumIn 11 = .ok (.getfield 16, 3) := by decide +kernel
theorem dX5_sumIn_14 : decode cX5_sumIn 14 = .ok (.aload_n 0, 1) := by decide +kernel
theorem dX5_sumIn_15 : decode cX5_sumIn 15 = .ok (.getfield 10, 3) := by decide +kernel
theorem dX5_sumIn_18 : decode cX5_sumIn 18 = .ok (.invokevirtual 173, 3) := by decide +kernel
theorem dX5_sumIn_21 : decode cX5_sumIn 21 = .ok (.iconst 0, 1) := by decide +kernel
theorem dX5_sumIn_22 : decode cX5_sumIn 22 = .ok (.istore_n 3, 1) := by decide +kernel
theorem dX5_sumIn_23 : decode cX5_sumIn 23 = .ok (.iload_n 3, 1) := by decide +kernel
theorem dX5_sumIn_24 : decode cX5_sumIn 24 = .ok (.iload_n 2, 1) := by decide +kernel
theorem dX5_sumIn_25 : decode cX5_sumIn 25 = .ok (.if_icmp .ge 16, 3) := by decide +kernel
theorem dX5_sumIn_28 : decode cX5_sumIn 28 = .ok (.aload_n 0, 1) := by decide +kernel
theorem dX5_sumIn_29 : decode cX5_sumIn 29 = .ok (.getfield 16, 3) := by decide +kernel
theorem dX5_sumIn_32 : decode cX5_sumIn 32 = .ok (.invokevirtual 127, 3) := by decide +kernel
theorem dX5_sumIn_35 : decode cX5_sumIn 35 = .ok (.iinc 3 1, 3) := by decide +kernel
theorem dX5_sumIn_38 : decode cX5_sumIn 38 = .ok (.goto (-15), 3) := by decide +kernel
theorem dX5_sumIn_41 : decode cX5_sumIn 41 = .ok (.aload_n 0, 1) := by decide +kernel
theorem dX5_sumIn_42 : decode cX5_sumIn 42 = .ok (.getfield 16, 3) := by decide +kernel
theorem dX5_sumIn_45 : decode cX5_sumIn 45 = .ok (.iload_n 1, 1) := by decide +kernel
theorem dX5_sumIn_46 : decode cX5_sumIn 46 = .ok (.invokevirtual 59, 3) := by decide +kernel
theorem dX5_sumIn_49 : decode cX5_sumIn 49 = .ok (.getfield 161, 3) := by decide +kernel
theorem dX5_sumIn_52 : decode cX5_sumIn 52 = .ok (.ireturn, 1) := by decide +kernel
theorem dX5_placesWanted_0 : decode cX5_placesWanted 0 = .ok (.aload_n 0, 1) := by decide +kernel
theorem dX5_placesWanted_1 : decode cX5_placesWanted 1 = .ok (.iload_n 1, 1) := by decide +kernel
theorem dX5_placesWanted_2 : decode cX5_placesWanted 2 = .ok (.invokevirtual 87, 3) := by decide +kernel
theorem dX5_placesWanted_5 : decode cX5_placesWanted 5 = .ok (.aload_n 0, 1) := by decide +kernel
theorem dX5_placesWanted_6 : decode cX5_placesWanted 6 = .ok (.getfield 10, 3) := by decide +kernel
theorem dX5_placesWanted_9 : decode cX5_placesWanted 9 = .ok (.iload_n 1, 1) := by decide +kernel
theorem dX5_placesWanted_10 : decode cX5_placesWanted 10 = .ok (.invokevirtual 35, 3) := by decide +kernel
theorem dX5_placesWanted_13 : decode cX5_placesWanted 13 = .ok (.getfield 39, 3) := by decide +kernel
theorem dX5_placesWanted_16 : decode cX5_placesWanted 16 = .ok (.istore_n 2, 1) := by decide +kernel
theorem dX5_placesWanted_17 : decode cX5_placesWanted 17 = .ok (.iload_n 2, 1) := by decide +kernel
theorem dX5_placesWanted_18 : decode cX5_placesWanted 18 = .ok (.bipush 8, 2) := by decide +kernel
theorem dX5_placesWanted_20 : decode cX5_placesWanted 20 = .ok (.if_icmp .gt 75, 3) := by decide +kernel
theorem dX5_placesWanted_23 : decode cX5_placesWanted 23 = .ok (.aload_n 0, 1) := by decide +kernel
theorem dX5_placesWanted_24 : decode cX5_placesWanted 24 = .ok (.getfield 16, 3) := by decide +kernel
theorem dX5_placesWanted_27 : decode cX5_placesWanted 27 = .ok (.aload_n 0, 1) := by decide +kernel
theorem dX5_placesWanted_28 : decode cX5_placesWanted 28 = .ok (.getfield 10, 3) := by decide +kernel
theorem dX5_placesWanted_31 : decode cX5_placesWanted 31 = .ok (.invokevirtual 173, 3) := by decide +kernel
theorem dX5_placesWanted_34 : decode cX5_placesWanted 34 = .ok (.aload_n 0, 1) := by decide +kernel
theorem dX5_placesWanted_35 : decode cX5_placesWanted 35 = .ok (.getfield 16, 3) := by decide +kernel
theorem dX5_placesWanted_38 : decode cX5_placesWanted 38 = .ok (.iload_n 1, 1) := by decide +kernel
theorem dX5_placesWanted_39 : decode cX5_placesWanted 39 = .ok (.invokevirtual 35, 3) := by decide +kernel
theorem dX5_placesWanted_42 : decode cX5_placesWanted 42 = .ok (.iload_n 2, 1) := by decide +kernel
theorem dX5_placesWanted_43 : decode cX5_placesWanted 43 = .ok (.putfield 39, 3) := by decide +kernel
theorem dX5_placesWanted_46 : decode cX5_placesWanted 46 = .ok (.iconst 0, 1) := by decide +kernel
theorem dX5_placesWanted_47 : decode cX5_placesWanted 47 = .ok (.istore_n 3, 1) := by decide +kernel
theorem dX5_placesWanted_48 : decode cX5_placesWanted 48 = .ok (.iload_n 3, 1) := by decide +kernel
theorem dX5_placesWanted_49 : decode cX5_placesWanted 49 = .ok (.bipush 100, 2) := by decide +kernel
theorem dX5_placesWanted_51 : decode cX5_placesWanted 51 = .ok (.if_icmp .ge 26, 3) := by decide +kernel
theorem dX5_placesWanted_54 : decode cX5_placesWanted 54 = .ok (.aload_n 0, 1) := by decide +kernel
theorem dX5_placesWanted_55 : decode cX5_placesWanted 55 = .ok (.getfield 16, 3) := by decide +kernel
theorem dX5_placesWanted_58 : decode cX5_placesWanted 58 = .ok (.invokevirtual 144, 3) := by decide +kernel
theorem dX5_placesWanted_61 : decode cX5_placesWanted 61 = .ok (.ifCond .ne 16, 3) := by decide +kernel
theorem dX5_placesWanted_64 : decode cX5_placesWanted 64 = .ok (.aload_n 0, 1) := by decide +kernel
theorem dX5_placesWanted_65 : decode cX5_placesWanted 65 = .ok (.getfield 16, 3) := by decide +kernel
theorem dX5_placesWanted_68 : decode cX5_placesWanted 68 = .ok (.invokevirtual 127, 3) := by decide +kernel
theorem dX5_placesWanted_71 : decode cX5_placesWanted 71 = .ok (.iinc 3 1, 3) := by decide +kernel
theorem dX5_placesWanted_74 : decode cX5_placesWanted 74 = .ok (.goto (-26), 3) := by decide +kernel
theorem dX5_placesWanted_77 : decode cX5_placesWanted 77 = .ok (.aload_n 0, 1) := by decide +kernel
theorem dX5_placesWanted_78 : decode cX5_placesWanted 78 = .ok (.getfield 16, 3) := by decide +kernel
theorem dX5_placesWanted_81 : decode cX5_placesWanted 81 = .ok (.invokevirtual 147, 3) := by decide +kernel
theorem dX5_placesWanted_84 : decode cX5_placesWanted 84 = .ok (.ifCond .eq 5, 3) := by decide +kernel
theorem dX5_placesWanted_87 : decode cX5_placesWanted 87 = .ok (.iload_n 2, 1) := by decide +kernel
theorem dX5_placesWanted_88 : decode cX5_placesWanted 88 = .ok (.ireturn, 1) := by decide +kernel
theorem dX5_placesWanted_89 : decode cX5_placesWanted 89 = .ok (.iinc 2 1, 3) := by decide +kernel
theorem dX5_placesWanted_92 : decode cX5_placesWanted 92 = .ok (.goto (-75), 3) := by decide +kernel
theorem dX5_placesWanted_95 : decode cX5_placesWanted 95 = .ok (.iconst (-1), 1) := by decide +kernel
theorem dX5_placesWanted_96 : decode cX5_placesWanted 96 = .ok (.ireturn, 1) := by decide +kernel
theorem dX5_meanTurns_0 : decode cX5_meanTurns 0 = .ok (.aload_n 0, 1) := by decide +kernel
theorem dX5_meanTurns_1 : decode cX5_meanTurns 1 = .ok (.getfield 10, 3) := by decide +kernel
theorem dX5_meanTurns_4 : decode cX5_meanTurns 4 = .ok (.getfield 44, 3) := by decide +kernel
theorem dX5_meanTurns_7 : decode cX5_meanTurns 7 = .ok (.ifCond .gt 5, 3) := by decide +kernel
theorem dX5_meanTurns_10 : decode cX5_meanTurns 10 = .ok (.dconst 0, 1) := by decide +kernel
theorem dX5_meanTurns_11 : decode cX5_meanTurns 11 = .ok (.dreturn, 1) := by decide +kernel
theorem dX5_meanTurns_12 : decode cX5_meanTurns 12 = .ok (.iconst 0, 1) := by decide +kernel
theorem dX5_meanTurns_13 : decode cX5_meanTurns 13 = .ok (.istore_n 1, 1) := by decide +kernel
theorem dX5_meanTurns_14 : decode cX5_meanTurns 14 = .ok (.iconst 0, 1) := by decide +kernel
theorem dX5_meanTurns_15 : decode cX5_meanTurns 15 = .ok (.istore_n 2, 1) := by decide +kernel
theorem dX5_meanTurns_16 : decode cX5_meanTurns 16 = .ok (.iload_n 2, 1) := by decide +kernel
theorem dX5_meanTurns_17 : decode cX5_meanTurns 17 = .ok (.aload_n 0, 1) := by decide +kernel
theorem dX5_meanTurns_18 : decode cX5_meanTurns 18 = .ok (.getfield 10, 3) := by decide +kernel
theorem dX5_meanTurns_21 : decode cX5_meanTurns 21 = .ok (.getfield 44, 3) := by decide +kernel
theorem dX5_meanTurns_24 : decode cX5_meanTurns 24 = .ok (.if_icmp .ge 23, 3) := by decide +kernel
theorem dX5_meanTurns_27 : decode cX5_meanTurns 27 = .ok (.iload_n 1, 1) := by decide +kernel
theorem dX5_meanTurns_28 : decode cX5_meanTurns 28 = .ok (.aload_n 0, 1) := by decide +kernel
theorem dX5_meanTurns_29 : decode cX5_meanTurns 29 = .ok (.getfield 10, 3) := by decide +kernel
theorem dX5_meanTurns_32 : decode cX5_meanTurns 32 = .ok (.iload_n 2, 1) := by decide +kernel
theorem dX5_meanTurns_33 : decode cX5_meanTurns 33 = .ok (.invokevirtual 59, 3) := by decide +kernel
theorem dX5_meanTurns_36 : decode cX5_meanTurns 36 = .ok (.getfield 167, 3) := by decide +kernel
theorem dX5_meanTurns_39 : decode cX5_meanTurns 39 = .ok (.iadd, 1) := by decide +kernel
theorem dX5_meanTurns_40 : decode cX5_meanTurns 40 = .ok (.istore_n 1, 1) := by decide +kernel
theorem dX5_meanTurns_41 : decode cX5_meanTurns 41 = .ok (.iinc 2 1, 3) := by decide +kernel
theorem dX5_meanTurns_44 : decode cX5_meanTurns 44 = .ok (.goto (-28), 3) := by decide +kernel
theorem dX5_meanTurns_47 : decode cX5_meanTurns 47 = .ok (.iload_n 1, 1) := by decide +kernel
theorem dX5_meanTurns_48 : decode cX5_meanTurns 48 = .ok (.i2d, 1) := by decide +kernel
theorem dX5_meanTurns_49 : decode cX5_meanTurns 49 = .ok (.aload_n 0, 1) := by decide +kernel
theorem dX5_meanTurns_50 : decode cX5_meanTurns 50 = .ok (.getfield 10, 3) := by decide +kernel
theorem dX5_meanTurns_53 : decode cX5_meanTurns 53 = .ok (.getfield 44, 3) := by decide +kernel
theorem dX5_meanTurns_56 : decode cX5_meanTurns 56 = .ok (.i2d, 1) := by decide +kernel
theorem dX5_meanTurns_57 : decode cX5_meanTurns 57 = .ok (.ddiv, 1) := by decide +kernel
theorem dX5_meanTurns_58 : decode cX5_meanTurns 58 = .ok (.dreturn, 1) := by decide +kernel
theorem dX5_digest_0 : decode cX5_digest 0 = .ok (.ldc2_w 177, 3) := by decide +kernel
theorem dX5_digest_3 : decode cX5_digest 3 = .ok (.lstore_n 1, 1) := by decide +kernel
theorem dX5_digest_4 : decode cX5_digest 4 = .ok (.lload_n 1, 1) := by decide +kernel
theorem dX5_digest_5 : decode cX5_digest 5 = .ok (.ldc2_w 179, 3) := by decide +kernel
theorem dX5_digest_8 : decode cX5_digest 8 = .ok (.lmul, 1) := by decide +kernel
theorem dX5_digest_9 : decode cX5_digest 9 = .ok (.aload_n 0, 1) := by decide +kernel
theorem dX5_digest_10 : decode cX5_digest 10 = .ok (.invokevirtual 181, 3) := by decide +kernel
theorem dX5_digest_13 : decode cX5_digest 13 = .ok (.i2l, 1) := by decide +kernel
theorem dX5_digest_14 : decode cX5_digest 14 = .ok (.ladd, 1) := by decide +kernel
theorem dX5_digest_15 : decode cX5_digest 15 = .ok (.lstore_n 1, 1) := by decide +kernel
theorem dX5_digest_16 : decode cX5_digest 16 = .ok (.lload_n 1, 1) := by decide +kernel
theorem dX5_digest_17 : decode cX5_digest 17 = .ok (.ldc2_w 179, 3) := by decide +kernel
theorem dX5_digest_20 : decode cX5_digest 20 = .ok (.lmul, 1) := by decide +kernel
theorem dX5_digest_21 : decode cX5_digest 21 = .ok (.aload_n 0, 1) := by decide +kernel
theorem dX5_digest_22 : decode cX5_digest 22 = .ok (.invokevirtual 184, 3) := by decide +kernel
theorem dX5_digest_25 : decode cX5_digest 25 = .ok (.i2l, 1) := by decide +kernel
theorem dX5_digest_26 : decode cX5_digest 26 = .ok (.ladd, 1) := by decide +kernel
theorem dX5_digest_27 : decode cX5_digest 27 = .ok (.lstore_n 1, 1) := by decide +kernel
theorem dX5_digest_28 : decode cX5_digest 28 = .ok (.lload_n 1, 1) := by decide +kernel
theorem dX5_digest_29 : decode cX5_digest 29 = .ok (.ldc2_w 179, 3) := by decide +kernel
theorem dX5_digest_32 : decode cX5_digest 32 = .ok (.lmul, 1) := by decide +kernel
theorem dX5_digest_33 : decode cX5_digest 33 = .ok (.aload_n 0, 1) := by decide +kernel
theorem dX5_digest_34 : decode cX5_digest 34 = .ok (.invokevirtual 187, 3) := by decide +kernel
theorem dX5_digest_37 : decode cX5_digest 37 = .ok (.i2l, 1) := by decide +kernel
theorem dX5_digest_38 : decode cX5_digest 38 = .ok (.ladd, 1) := by decide +kernel
theorem dX5_digest_39 : decode cX5_digest 39 = .ok (.lstore_n 1, 1) := by decide +kernel
theorem dX5_digest_40 : decode cX5_digest 40 = .ok (.lload_n 1, 1) := by decide +kernel
theorem dX5_digest_41 : decode cX5_digest 41 = .ok (.ldc2_w 179, 3) := by decide +kernel
theorem dX5_digest_44 : decode cX5_digest 44 = .ok (.lmul, 1) := by decide +kernel
theorem dX5_digest_45 : decode cX5_digest 45 = .ok (.aload_n 0, 1) := by decide +kernel
theorem dX5_digest_46 : decode cX5_digest 46 = .ok (.invokevirtual 190, 3) := by decide +kernel
theorem dX5_digest_49 : decode cX5_digest 49 = .ok (.i2l, 1) := by decide +kernel
theorem dX5_digest_50 : decode cX5_digest 50 = .ok (.ladd, 1) := by decide +kernel
theorem dX5_digest_51 : decode cX5_digest 51 = .ok (.lstore_n 1, 1) := by decide +kernel
theorem dX5_digest_52 : decode cX5_digest 52 = .ok (.lload_n 1, 1) := by decide +kernel
theorem dX5_digest_53 : decode cX5_digest 53 = .ok (.ldc2_w 179, 3) := by decide +kernel
theorem dX5_digest_56 : decode cX5_digest 56 = .ok (.lmul, 1) := by decide +kernel
theorem dX5_digest_57 : decode cX5_digest 57 = .ok (.aload_n 0, 1) := by decide +kernel
theorem dX5_digest_58 : decode cX5_digest 58 = .ok (.invokevirtual 193, 3) := by decide +kernel
theorem dX5_digest_61 : decode cX5_digest 61 = .ok (.i2l, 1) := by decide +kernel
theorem dX5_digest_62 : decode cX5_digest 62 = .ok (.ladd, 1) := by decide +kernel
theorem dX5_digest_63 : decode cX5_digest 63 = .ok (.lstore_n 1, 1) := by decide +kernel
theorem dX5_digest_64 : decode cX5_digest 64 = .ok (.lload_n 1, 1) := by decide +kernel
theorem dX5_digest_65 : decode cX5_digest 65 = .ok (.ldc2_w 179, 3) := by decide +kernel
theorem dX5_digest_68 : decode cX5_digest 68 = .ok (.lmul, 1) := by decide +kernel
theorem dX5_digest_69 : decode cX5_digest 69 = .ok (.aload_n 0, 1) := by decide +kernel
theorem dX5_digest_70 : decode cX5_digest 70 = .ok (.invokevirtual 196, 3) := by decide +kernel
theorem dX5_digest_73 : decode cX5_digest 73 = .ok (.i2l, 1) := by decide +kernel
theorem dX5_digest_74 : decode cX5_digest 74 = .ok (.ladd, 1) := by decide +kernel
theorem dX5_digest_75 : decode cX5_digest 75 = .ok (.lstore_n 1, 1) := by decide +kernel
theorem dX5_digest_76 : decode cX5_digest 76 = .ok (.lload_n 1, 1) := by decide +kernel
theorem dX5_digest_77 : decode cX5_digest 77 = .ok (.ldc2_w 179, 3) := by decide +kernel
theorem dX5_digest_80 : decode cX5_digest 80 = .ok (.lmul, 1) := by decide +kernel
theorem dX5_digest_81 : decode cX5_digest 81 = .ok (.aload_n 0, 1) := by decide +kernel
theorem dX5_digest_82 : decode cX5_digest 82 = .ok (.invokevirtual 199, 3) := by decide +kernel
theorem dX5_digest_85 : decode cX5_digest 85 = .ok (.ifCond .eq 7, 3) := by decide +kernel
theorem dX5_digest_88 : decode cX5_digest 88 = .ok (.iconst 1, 1) := by decide +kernel
theorem dX5_digest_89 : decode cX5_digest 89 = .ok (.goto 4, 3) := by decide +kernel
theorem dX5_digest_92 : decode cX5_digest 92 = .ok (.iconst 0, 1) := by decide +kernel
theorem dX5_digest_93 : decode cX5_digest 93 = .ok (.i2l, 1) := by decide +kernel
theorem dX5_digest_94 : decode cX5_digest 94 = .ok (.ladd, 1) := by decide +kernel
theorem dX5_digest_95 : decode cX5_digest 95 = .ok (.lstore_n 1, 1) := by decide +kernel
theorem dX5_digest_96 : decode cX5_digest 96 = .ok (.lload_n 1, 1) := by decide +kernel
theorem dX5_digest_97 : decode cX5_digest 97 = .ok (.ldc2_w 179, 3) := by decide +kernel
theorem dX5_digest_100 : decode cX5_digest 100 = .ok (.lmul, 1) := by decide +kernel
theorem dX5_digest_101 : decode cX5_digest 101 = .ok (.aload_n 0, 1) := by decide +kernel
theorem dX5_digest_102 : decode cX5_digest 102 = .ok (.invokevirtual 202, 3) := by decide +kernel
theorem dX5_digest_105 : decode cX5_digest 105 = .ok (.i2l, 1) := by decide +kernel
theorem dX5_digest_106 : decode cX5_digest 106 = .ok (.ladd, 1) := by decide +kernel
theorem dX5_digest_107 : decode cX5_digest 107 = .ok (.lstore_n 1, 1) := by decide +kernel
theorem dX5_digest_108 : decode cX5_digest 108 = .ok (.aload_n 0, 1) := by decide +kernel
theorem dX5_digest_109 : decode cX5_digest 109 = .ok (.invokevirtual 184, 3) := by decide +kernel
theorem dX5_digest_112 : decode cX5_digest 112 = .ok (.istore_n 3, 1) := by decide +kernel
theorem dX5_digest_113 : decode cX5_digest 113 = .ok (.iconst 0, 1) := by decide +kernel
theorem dX5_digest_114 : decode cX5_digest 114 = .ok (.istore 4, 2) := by decide +kernel
theorem dX5_digest_116 : decode cX5_digest 116 = .ok (.iload 4, 2) := by decide +kernel
theorem dX5_digest_118 : decode cX5_digest 118 = .ok (.iload_n 3, 1) := by decide +kernel
theorem dX5_digest_119 : decode cX5_digest 119 = .ok (.if_icmp .ge 101, 3) := by decide +kernel
theorem dX5_digest_122 : decode cX5_digest 122 = .ok (.aload_n 0, 1) := by decide +kernel
theorem dX5_digest_123 : decode cX5_digest 123 = .ok (.iload 4, 2) := by decide +kernel
theorem dX5_digest_125 : decode cX5_digest 125 = .ok (.invokevirtual 205, 3) := by decide +kernel
theorem dX5_digest_128 : decode cX5_digest 128 = .ok (.istore 5, 2) := by decide +kernel
theorem dX5_digest_130 : decode cX5_digest 130 = .ok (.lload_n 1, 1) := by decide +kernel
theorem dX5_digest_131 : decode cX5_digest 131 = .ok (.ldc2_w 179, 3) := by decide +kernel
theorem dX5_digest_134 : decode cX5_digest 134 = .ok (.lmul, 1) := by decide +kernel
theorem dX5_digest_135 : decode cX5_digest 135 = .ok (.iload 5, 2) := by decide +kernel
theorem dX5_digest_137 : decode cX5_digest 137 = .ok (.i2l, 1) := by decide +kernel
theorem dX5_digest_138 : decode cX5_digest 138 = .ok (.ladd, 1) := by decide +kernel
theorem dX5_digest_139 : decode cX5_digest 139 = .ok (.lstore_n 1, 1) := by decide +kernel
theorem dX5_digest_140 : decode cX5_digest 140 = .ok (.iconst 0, 1) := by decide +kernel
theorem dX5_digest_141 : decode cX5_digest 141 = .ok (.istore 6, 2) := by decide +kernel
theorem dX5_digest_143 : decode cX5_digest 143 = .ok (.iload 6, 2) := by decide +kernel
theorem dX5_digest_145 : decode cX5_digest 145 = .ok (.iload 5, 2) := by decide +kernel
theorem dX5_digest_147 : decode cX5_digest 147 = .ok (.if_icmp .ge 25, 3) := by decide +kernel
theorem dX5_digest_150 : decode cX5_digest 150 = .ok (.lload_n 1, 1) := by decide +kernel
theorem dX5_digest_151 : decode cX5_digest 151 = .ok (.ldc2_w 179, 3) := by decide +kernel
theorem dX5_digest_154 : decode cX5_digest 154 = .ok (.lmul, 1) := by decide +kernel
theorem dX5_digest_155 : decode cX5_digest 155 = .ok (.aload_n 0, 1) := by decide +kernel
theorem dX5_digest_156 : decode cX5_digest 156 = .ok (.iload 4, 2) := by decide +kernel
theorem dX5_digest_158 : decode cX5_digest 158 = .ok (.iload 6, 2) := by decide +kernel
theorem dX5_digest_160 : decode cX5_digest 160 = .ok (.invokevirtual 208, 3) := by decide +kernel
theorem dX5_digest_163 : decode cX5_digest 163 = .ok (.i2l, 1) := by decide +kernel
theorem dX5_digest_164 : decode cX5_digest 164 = .ok (.ladd, 1) := by decide +kernel
theorem dX5_digest_165 : decode cX5_digest 165 = .ok (.lstore_n 1, 1) := by decide +kernel
theorem dX5_digest_166 : decode cX5_digest 166 = .ok (.iinc 6 1, 3) := by decide +kernel
theorem dX5_digest_169 : decode cX5_digest 169 = .ok (.goto (-26), 3) := by decide +kernel
theorem dX5_digest_172 : decode cX5_digest 172 = .ok (.lload_n 1, 1) := by decide +kernel
theorem dX5_digest_173 : decode cX5_digest 173 = .ok (.ldc2_w 179, 3) := by decide +kernel
theorem dX5_digest_176 : decode cX5_digest 176 = .ok (.lmul, 1) := by decide +kernel
theorem dX5_digest_177 : decode cX5_digest 177 = .ok (.aload_n 0, 1) := by decide +kernel
theorem dX5_digest_178 : decode cX5_digest 178 = .ok (.iload 4, 2) := by decide +kernel
theorem dX5_digest_180 : decode cX5_digest 180 = .ok (.invokevirtual 212, 3) := by decide +kernel
theorem dX5_digest_183 : decode cX5_digest 183 = .ok (.i2l, 1) := by decide +kernel
theorem dX5_digest_184 : decode cX5_digest 184 = .ok (.ladd, 1) := by decide +kernel
theorem dX5_digest_185 : decode cX5_digest 185 = .ok (.lstore_n 1, 1) := by decide +kernel
theorem dX5_digest_186 : decode cX5_digest 186 = .ok (.lload_n 1, 1) := by decide +kernel
theorem dX5_digest_187 : decode cX5_digest 187 = .ok (.ldc2_w 179, 3) := by decide +kernel
theorem dX5_digest_190 : decode cX5_digest 190 = .ok (.lmul, 1) := by decide +kernel
theorem dX5_digest_191 : decode cX5_digest 191 = .ok (.aload_n 0, 1) := by decide +kernel
theorem dX5_digest_192 : decode cX5_digest 192 = .ok (.iload 4, 2) := by decide +kernel
theorem dX5_digest_194 : decode cX5_digest 194 = .ok (.invokevirtual 215, 3) := by decide +kernel
theorem dX5_digest_197 : decode cX5_digest 197 = .ok (.i2l, 1) := by decide +kernel
theorem dX5_digest_198 : decode cX5_digest 198 = .ok (.ladd, 1) := by decide +kernel
theorem dX5_digest_199 : decode cX5_digest 199 = .ok (.lstore_n 1, 1) := by decide +kernel
theorem dX5_digest_200 : decode cX5_digest 200 = .ok (.lload_n 1, 1) := by decide +kernel
theorem dX5_digest_201 : decode cX5_digest 201 = .ok (.ldc2_w 179, 3) := by decide +kernel
theorem dX5_digest_204 : decode cX5_digest 204 = .ok (.lmul, 1) := by decide +kernel
theorem dX5_digest_205 : decode cX5_digest 205 = .ok (.aload_n 0, 1) := by decide +kernel
theorem dX5_digest_206 : decode cX5_digest 206 = .ok (.iload 4, 2) := by decide +kernel
theorem dX5_digest_208 : decode cX5_digest 208 = .ok (.invokevirtual 218, 3) := by decide +kernel
theorem dX5_digest_211 : decode cX5_digest 211 = .ok (.i2l, 1) := by decide +kernel
theorem dX5_digest_212 : decode cX5_digest 212 = .ok (.ladd, 1) := by decide +kernel
theorem dX5_digest_213 : decode cX5_digest 213 = .ok (.lstore_n 1, 1) := by decide +kernel
theorem dX5_digest_214 : decode cX5_digest 214 = .ok (.iinc 4 1, 3) := by decide +kernel
theorem dX5_digest_217 : decode cX5_digest 217 = .ok (.goto (-101), 3) := by decide +kernel
theorem dX5_digest_220 : decode cX5_digest 220 = .ok (.aload_n 0, 1) := by decide +kernel
theorem dX5_digest_221 : decode cX5_digest 221 = .ok (.invokevirtual 187, 3) := by decide +kernel
theorem dX5_digest_224 : decode cX5_digest 224 = .ok (.istore 4, 2) := by decide +kernel
theorem dX5_digest_226 : decode cX5_digest 226 = .ok (.iconst 0, 1) := by decide +kernel
theorem dX5_digest_227 : decode cX5_digest 227 = .ok (.istore 5, 2) := by decide +kernel
theorem dX5_digest_229 : decode cX5_digest 229 = .ok (.iload 5, 2) := by decide +kernel
theorem dX5_digest_231 : decode cX5_digest 231 = .ok (.iload 4, 2) := by decide +kernel
theorem dX5_digest_233 : decode cX5_digest 233 = .ok (.if_icmp .ge 107, 3) := by decide +kernel
theorem dX5_digest_236 : decode cX5_digest 236 = .ok (.lload_n 1, 1) := by decide +kernel
theorem dX5_digest_237 : decode cX5_digest 237 = .ok (.ldc2_w 179, 3) := by decide +kernel
theorem dX5_digest_240 : decode cX5_digest 240 = .ok (.lmul, 1) := by decide +kernel
theorem dX5_digest_241 : decode cX5_digest 241 = .ok (.aload_n 0, 1) := by decide +kernel
theorem dX5_digest_242 : decode cX5_digest 242 = .ok (.iload 5, 2) := by decide +kernel
theorem dX5_digest_244 : decode cX5_digest 244 = .ok (.invokevirtual 221, 3) := by decide +kernel
theorem dX5_digest_247 : decode cX5_digest 247 = .ok (.i2l, 1) := by decide +kernel
theorem dX5_digest_248 : decode cX5_digest 248 = .ok (.ladd, 1) := by decide +kernel
theorem dX5_digest_249 : decode cX5_digest 249 = .ok (.lstore_n 1, 1) := by decide +kernel
theorem dX5_digest_250 : decode cX5_digest 250 = .ok (.lload_n 1, 1) := by decide +kernel
theorem dX5_digest_251 : decode cX5_digest 251 = .ok (.ldc2_w 179, 3) := by decide +kernel
theorem dX5_digest_254 : decode cX5_digest 254 = .ok (.lmul, 1) := by decide +kernel
theorem dX5_digest_255 : decode cX5_digest 255 = .ok (.aload_n 0, 1) := by decide +kernel
theorem dX5_digest_256 : decode cX5_digest 256 = .ok (.iload 5, 2) := by decide +kernel
theorem dX5_digest_258 : decode cX5_digest 258 = .ok (.invokevirtual 224, 3) := by decide +kernel
theorem dX5_digest_261 : decode cX5_digest 261 = .ok (.i2l, 1) := by decide +kernel
theorem dX5_digest_262 : decode cX5_digest 262 = .ok (.ladd, 1) := by decide +kernel
theorem dX5_digest_263 : decode cX5_digest 263 = .ok (.lstore_n 1, 1) := by decide +kernel
theorem dX5_digest_264 : decode cX5_digest 264 = .ok (.lload_n 1, 1) := by decide +kernel
theorem dX5_digest_265 : decode cX5_digest 265 = .ok (.ldc2_w 179, 3) := by decide +kernel
theorem dX5_digest_268 : decode cX5_digest 268 = .ok (.lmul, 1) := by decide +kernel
theorem dX5_digest_269 : decode cX5_digest 269 = .ok (.aload_n 0, 1) := by decide +kernel
theorem dX5_digest_270 : decode cX5_digest 270 = .ok (.iload 5, 2) := by decide +kernel
theorem dX5_digest_272 : decode cX5_digest 272 = .ok (.invokevirtual 227, 3) := by decide +kernel
theorem dX5_digest_275 : decode cX5_digest 275 = .ok (.i2l, 1) := by decide +kernel
theorem dX5_digest_276 : decode cX5_digest 276 = .ok (.ladd, 1) := by decide +kernel
theorem dX5_digest_277 : decode cX5_digest 277 = .ok (.lstore_n 1, 1) := by decide +kernel
theorem dX5_digest_278 : decode cX5_digest 278 = .ok (.lload_n 1, 1) := by decide +kernel
theorem dX5_digest_279 : decode cX5_digest 279 = .ok (.ldc2_w 179, 3) := by decide +kernel
theorem dX5_digest_282 : decode cX5_digest 282 = .ok (.lmul, 1) := by decide +kernel
theorem dX5_digest_283 : decode cX5_digest 283 = .ok (.aload_n 0, 1) := by decide +kernel
theorem dX5_digest_284 : decode cX5_digest 284 = .ok (.iload 5, 2) := by decide +kernel
theorem dX5_digest_286 : decode cX5_digest 286 = .ok (.invokevirtual 230, 3) := by decide +kernel
theorem dX5_digest_289 : decode cX5_digest 289 = .ok (.i2l, 1) := by decide +kernel
theorem dX5_digest_290 : decode cX5_digest 290 = .ok (.ladd, 1) := by decide +kernel
theorem dX5_digest_291 : decode cX5_digest 291 = .ok (.lstore_n 1, 1) := by decide +kernel
theorem dX5_digest_292 : decode cX5_digest 292 = .ok (.lload_n 1, 1) := by decide +kernel
theorem dX5_digest_293 : decode cX5_digest 293 = .ok (.ldc2_w 179, 3) := by decide +kernel
theorem dX5_digest_296 : decode cX5_digest 296 = .ok (.lmul, 1) := by decide +kernel
theorem dX5_digest_297 : decode cX5_digest 297 = .ok (.aload_n 0, 1) := by decide +kernel
theorem dX5_digest_298 : decode cX5_digest 298 = .ok (.iload 5, 2) := by decide +kernel
theorem dX5_digest_300 : decode cX5_digest 300 = .ok (.invokevirtual 233, 3) := by decide +kernel
theorem dX5_digest_303 : decode cX5_digest 303 = .ok (.i2l, 1) := by decide +kernel
theorem dX5_digest_304 : decode cX5_digest 304 = .ok (.ladd, 1) := by decide +kernel
theorem dX5_digest_305 : decode cX5_digest 305 = .ok (.lstore_n 1, 1) := by decide +kernel
theorem dX5_digest_306 : decode cX5_digest 306 = .ok (.lload_n 1, 1) := by decide +kernel
theorem dX5_digest_307 : decode cX5_digest 307 = .ok (.ldc2_w 179, 3) := by decide +kernel
theorem dX5_digest_310 : decode cX5_digest 310 = .ok (.lmul, 1) := by decide +kernel
theorem dX5_digest_311 : decode cX5_digest 311 = .ok (.aload_n 0, 1) := by decide +kernel
theorem dX5_digest_312 : decode cX5_digest 312 = .ok (.iload 5, 2) := by decide +kernel
theorem dX5_digest_314 : decode cX5_digest 314 = .ok (.invokevirtual 236, 3) := by decide +kernel
theorem dX5_digest_317 : decode cX5_digest 317 = .ok (.i2l, 1) := by decide +kernel
theorem dX5_digest_318 : decode cX5_digest 318 = .ok (.ladd, 1) := by decide +kernel
theorem dX5_digest_319 : decode cX5_digest 319 = .ok (.lstore_n 1, 1) := by decide +kernel
theorem dX5_digest_320 : decode cX5_digest 320 = .ok (.lload_n 1, 1) := by decide +kernel
theorem dX5_digest_321 : decode cX5_digest 321 = .ok (.ldc2_w 179, 3) := by decide +kernel
theorem dX5_digest_324 : decode cX5_digest 324 = .ok (.lmul, 1) := by decide +kernel
theorem dX5_digest_325 : decode cX5_digest 325 = .ok (.aload_n 0, 1) := by decide +kernel
theorem dX5_digest_326 : decode cX5_digest 326 = .ok (.iload 5, 2) := by decide +kernel
theorem dX5_digest_328 : decode cX5_digest 328 = .ok (.invokevirtual 239, 3) := by decide +kernel
theorem dX5_digest_331 : decode cX5_digest 331 = .ok (.i2l, 1) := by decide +kernel
theorem dX5_digest_332 : decode cX5_digest 332 = .ok (.ladd, 1) := by decide +kernel
theorem dX5_digest_333 : decode cX5_digest 333 = .ok (.lstore_n 1, 1) := by decide +kernel
theorem dX5_digest_334 : decode cX5_digest 334 = .ok (.iinc 5 1, 3) := by decide +kernel
theorem dX5_digest_337 : decode cX5_digest 337 = .ok (.goto (-108), 3) := by decide +kernel
theorem dX5_digest_340 : decode cX5_digest 340 = .ok (.lload_n 1, 1) := by decide +kernel
theorem dX5_digest_341 : decode cX5_digest 341 = .ok (.lreturn, 1) := by decide +kernel
theorem dX5_checkChannel_0 : decode cX5_checkChannel 0 = .ok (.aload_n 0, 1) := by decide +kernel
theorem dX5_checkChannel_1 : decode cX5_checkChannel 1 = .ok (.iload_n 1, 1) := by decide +kernel
theorem dX5_checkChannel_2 : decode cX5_checkChannel 2 = .ok (.invokevirtual 242, 3) := by decide +kernel
theorem dX5_checkChannel_5 : decode cX5_checkChannel 5 = .ok (.ifCond .ne 13, 3) := by decide +kernel
theorem dX5_checkChannel_8 : decode cX5_checkChannel 8 = .ok (.new 150, 3) := by decide +kernel
theorem dX5_checkChannel_11 : decode cX5_checkChannel 11 = .ok (.dup, 1) := by decide +kernel
theorem dX5_checkChannel_12 : decode cX5_checkChannel 12 = .ok (.ldc 245, 2) := by decide +kernel
theorem dX5_checkChannel_14 : decode cX5_checkChannel 14 = .ok (.invokespecial 154, 3) := by decide +kernel
theorem dX5_checkChannel_17 : decode cX5_checkChannel 17 = .ok (.athrow, 1) := by decide +kernel
theorem dX5_checkChannel_18 : decode cX5_checkChannel 18 = .ok (.return_, 1) := by decide +kernel
theorem dX5_checkFiber_0 : decode cX5_checkFiber 0 = .ok (.aload_n 0, 1) := by decide +kernel
theorem dX5_checkFiber_1 : decode cX5_checkFiber 1 = .ok (.iload_n 1, 1) := by decide +kernel
theorem dX5_checkFiber_2 : decode cX5_checkFiber 2 = .ok (.invokevirtual 247, 3) := by decide +kernel
theorem dX5_checkFiber_5 : decode cX5_checkFiber 5 = .ok (.ifCond .ne 13, 3) := by decide +kernel
theorem dX5_checkFiber_8 : decode cX5_checkFiber 8 = .ok (.new 150, 3) := by decide +kernel
theorem dX5_checkFiber_11 : decode cX5_checkFiber 11 = .ok (.dup, 1) := by decide +kernel
theorem dX5_checkFiber_12 : decode cX5_checkFiber 12 = .ok (.ldc 250, 2) := by decide +kernel
theorem dX5_checkFiber_14 : decode cX5_checkFiber 14 = .ok (.invokespecial 154, 3) := by decide +kernel
theorem dX5_checkFiber_17 : decode cX5_checkFiber 17 = .ok (.athrow, 1) := by decide +kernel
theorem dX5_checkFiber_18 : decode cX5_checkFiber 18 = .ok (.return_, 1) := by decide +kernel
theorem dX5_checkTurns_0 : decode cX5_checkTurns 0 = .ok (.iload_n 1, 1) := by decide +kernel
theorem dX5_checkTurns_1 : decode cX5_checkTurns 1 = .ok (.iconst 1, 1) := by decide +kernel
theorem dX5_checkTurns_2 : decode cX5_checkTurns 2 = .ok (.if_icmp .lt 9, 3) := by decide +kernel
theorem dX5_checkTurns_5 : decode cX5_checkTurns 5 = .ok (.iload_n 1, 1) := by decide +kernel
theorem dX5_checkTurns_6 : decode cX5_checkTurns 6 = .ok (.bipush 60, 2) := by decide +kernel
theorem dX5_checkTurns_8 : decode cX5_checkTurns 8 = .ok (.if_icmp .le 13, 3) := by decide +kernel
theorem dX5_checkTurns_11 : decode cX5_checkTurns 11 = .ok (.new 19, 3) := by decide +kernel
theorem dX5_checkTurns_14 : decode cX5_checkTurns 14 = .ok (.dup, 1) := by decide +kernel
theorem dX5_checkTurns_15 : decode cX5_checkTurns 15 = .ok (.ldc 252, 2) := by decide +kernel
theorem dX5_checkTurns_17 : decode cX5_checkTurns 17 = .ok (.invokespecial 23, 3) := by decide +kernel
theorem dX5_checkTurns_20 : decode cX5_checkTurns 20 = .ok (.athrow, 1) := by decide +kernel
theorem dX5_checkTurns_21 : decode cX5_checkTurns 21 = .ok (.return_, 1) := by decide +kernel
theorem dX5_isChannel_0 : decode cX5_isChannel 0 = .ok (.iload_n 1, 1) := by decide +kernel
theorem dX5_isChannel_1 : decode cX5_isChannel 1 = .ok (.ifCond .lt 18, 3) := by decide +kernel
theorem dX5_isChannel_4 : decode cX5_isChannel 4 = .ok (.iload_n 1, 1) := by decide +kernel
theorem dX5_isChannel_5 : decode cX5_isChannel 5 = .ok (.aload_n 0, 1) := by decide +kernel
theorem dX5_isChannel_6 : decode cX5_isChannel 6 = .ok (.getfield 10, 3) := by decide +kernel
theorem dX5_isChannel_9 : decode cX5_isChannel 9 = .ok (.getfield 26, 3) := by decide +kernel
theorem dX5_isChannel_12 : decode cX5_isChannel 12 = .ok (.if_icmp .ge 7, 3) := by decide +kernel
theorem dX5_isChannel_15 : decode cX5_isChannel 15 = .ok (.iconst 1, 1) := by decide +kernel
theorem dX5_isChannel_16 : decode cX5_isChannel 16 = .ok (.goto 4, 3) := by decide +kernel
theorem dX5_isChannel_19 : decode cX5_isChannel 19 = .ok (.iconst 0, 1) := by decide +kernel
theorem dX5_isChannel_20 : decode cX5_isChannel 20 = .ok (.ireturn, 1) := by decide +kernel
theorem dX5_isFiber_0 : decode cX5_isFiber 0 = .ok (.iload_n 1, 1) := by decide +kernel
theorem dX5_isFiber_1 : decode cX5_isFiber 1 = .ok (.ifCond .lt 18, 3) := by decide +kernel
theorem dX5_isFiber_4 : decode cX5_isFiber 4 = .ok (.iload_n 1, 1) := by decide +kernel
theorem dX5_isFiber_5 : decode cX5_isFiber 5 = .ok (.aload_n 0, 1) := by decide +kernel
theorem dX5_isFiber_6 : decode cX5_isFiber 6 = .ok (.getfield 10, 3) := by decide +kernel
theorem dX5_isFiber_9 : decode cX5_isFiber 9 = .ok (.getfield 44, 3) := by decide +kernel
theorem dX5_isFiber_12 : decode cX5_isFiber 12 = .ok (.if_icmp .ge 7, 3) := by decide +kernel
theorem dX5_isFiber_15 : decode cX5_isFiber 15 = .ok (.iconst 1, 1) := by decide +kernel
theorem dX5_isFiber_16 : decode cX5_isFiber 16 = .ok (.goto 4, 3) := by decide +kernel
theorem dX5_isFiber_19 : decode cX5_isFiber 19 = .ok (.iconst 0, 1) := by decide +kernel
theorem dX5_isFiber_20 : decode cX5_isFiber 20 = .ok (.ireturn, 1) := by decide +kernel
theorem dX5_isValue_0 : decode cX5_isValue 0 = .ok (.iload_n 1, 1) := by decide +kernel
theorem dX5_isValue_1 : decode cX5_isValue 1 = .ok (.sipush (-999), 3) := by decide +kernel
theorem dX5_isValue_4 : decode cX5_isValue 4 = .ok (.if_icmp .lt 14, 3) := by decide +kernel
theorem dX5_isValue_7 : decode cX5_isValue 7 = .ok (.iload_n 1, 1) := by decide +kernel
theorem dX5_isValue_8 : decode cX5_isValue 8 = .ok (.sipush 999, 3) := by decide +kernel
theorem dX5_isValue_11 : decode cX5_isValue 11 = .ok (.if_icmp .gt 7, 3) := by decide +kernel
theorem dX5_isValue_14 : decode cX5_isValue 14 = .ok (.iconst 1, 1) := by decide +kernel
theorem dX5_isValue_15 : decode cX5_isValue 15 = .ok (.goto 4, 3) := by decide +kernel
theorem dX5_isValue_18 : decode cX5_isValue 18 = .ok (.iconst 0, 1) := by decide +kernel
theorem dX5_isValue_19 : decode cX5_isValue 19 = .ok (.ireturn, 1) := by decide +kernel
theorem dX5_isStep_0 : decode cX5_isStep 0 = .ok (.iload_n 2, 1) := by decide +kernel
theorem dX5_isStep_1 : decode cX5_isStep 1 = .ok (.tableswitch 148 0 6 #[43, 66, 72, 89, 91, 110, 66], 43) := by decide +kernel
theorem dX5_isStep_44 : decode cX5_isStep 44 = .ok (.aload_n 0, 1) := by decide +kernel
theorem dX5_isStep_45 : decode cX5_isStep 45 = .ok (.iload_n 3, 1) := by decide +kernel
theorem dX5_isStep_46 : decode cX5_isStep 46 = .ok (.invokevirtual 242, 3) := by decide +kernel
theorem dX5_isStep_49 : decode cX5_isStep 49 = .ok (.ifCond .eq 16, 3) := by decide +kernel
theorem dX5_isStep_52 : decode cX5_isStep 52 = .ok (.aload_n 0, 1) := by decide +kernel
theorem dX5_isStep_53 : decode cX5_isStep 53 = .ok (.iload 4, 2) := by decide +kernel
theorem dX5_isStep_55 : decode cX5_isStep 55 = .ok (.invokevirtual 90, 3) := by decide +kernel
theorem dX5_isStep_58 : decode cX5_isStep 58 = .ok (.ifCond .eq 7, 3) := by decide +kernel
theorem dX5_isStep_61 : decode cX5_isStep 61 = .ok (.iconst 1, 1) := by decide +kernel
theorem dX5_isStep_62 : decode cX5_isStep 62 = .ok (.goto 4, 3) := by decide +kernel
theorem dX5_isStep_65 : decode cX5_isStep 65 = .ok (.iconst 0, 1) := by decide +kernel
theorem dX5_isStep_66 : decode cX5_isStep 66 = .ok (.ireturn, 1) := by decide +kernel
theorem dX5_isStep_67 : decode cX5_isStep 67 = .ok (.aload_n 0, 1) := by decide +kernel
theorem dX5_isStep_68 : decode cX5_isStep 68 = .ok (.iload_n 3, 1) := by decide +kernel
theorem dX5_isStep_69 : decode cX5_isStep 69 = .ok (.invokevirtual 242, 3) := by decide +kernel
theorem dX5_isStep_72 : decode cX5_isStep 72 = .ok (.ireturn, 1) := by decide +kernel
theorem dX5_isStep_73 : decode cX5_isStep 73 = .ok (.iload_n 3, 1) := by decide +kernel
theorem dX5_isStep_74 : decode cX5_isStep 74 = .ok (.iconst 1, 1) := by decide +kernel
theorem dX5_isStep_75 : decode cX5_isStep 75 = .ok (.if_icmp .lt 13, 3) := by decide +kernel
theorem dX5_isStep_78 : decode cX5_isStep 78 = .ok (.iload_n 3, 1) := by decide +kernel
theorem dX5_isStep_79 : decode cX5_isStep 79 = .ok (.bipush 20, 2) := by decide +kernel
theorem dX5_isStep_81 : decode cX5_isStep 81 = .ok (.if_icmp .gt 7, 3) := by decide +kernel
theorem dX5_isStep_84 : decode cX5_isStep 84 = .ok (.iconst 1, 1) := by decide +kernel
theorem dX5_isStep_85 : decode cX5_isStep 85 = .ok (.goto 4, 3) := by decide +kernel
theorem dX5_isStep_88 : decode cX5_isStep 88 = .ok (.iconst 0, 1) := by decide +kernel
theorem dX5_isStep_89 : decode cX5_isStep 89 = .ok (.ireturn, 1) := by decide +kernel
theorem dX5_isStep_90 : decode cX5_isStep 90 = .ok (.iconst 1, 1) := by decide +kernel
theorem dX5_isStep_91 : decode cX5_isStep 91 = .ok (.ireturn, 1) := by decide +kernel
theorem dX5_isStep_92 : decode cX5_isStep 92 = .ok (.aload_n 0, 1) := by decide +kernel
theorem dX5_isStep_93 : decode cX5_isStep 93 = .ok (.iload_n 3, 1) := by decide +kernel
theorem dX5_isStep_94 : decode cX5_isStep 94 = .ok (.invokevirtual 247, 3) := by decide +kernel
theorem dX5_isStep_97 : decode cX5_isStep 97 = .ok (.ifCond .eq 12, 3) := by decide +kernel
theorem dX5_isStep_100 : decode cX5_isStep 100 = .ok (.iload_n 3, 1) := by decide +kernel
theorem dX5_isStep_101 : decode cX5_isStep 101 = .ok (.iload_n 1, 1) := by decide +kernel
theorem dX5_isStep_102 : decode cX5_isStep 102 = .ok (.if_icmp .eq 7, 3) := by decide +kernel
theorem dX5_isStep_105 : decode cX5_isStep 105 = .ok (.iconst 1, 1) := by decide +kernel
theorem dX5_isStep_106 : decode cX5_isStep 106 = .ok (.goto 4, 3) := by decide +kernel
theorem dX5_isStep_109 : decode cX5_isStep 109 = .ok (.iconst 0, 1) := by decide +kernel
theorem dX5_isStep_110 : decode cX5_isStep 110 = .ok (.ireturn, 1) := by decide +kernel
theorem dX5_isStep_111 : decode cX5_isStep 111 = .ok (.iload_n 3, 1) := by decide +kernel
theorem dX5_isStep_112 : decode cX5_isStep 112 = .ok (.ifCond .lt 35, 3) := by decide +kernel
theorem dX5_isStep_115 : decode cX5_isStep 115 = .ok (.iload_n 3, 1) := by decide +kernel
theorem dX5_isStep_116 : decode cX5_isStep 116 = .ok (.aload_n 0, 1) := by decide +kernel
theorem dX5_isStep_117 : decode cX5_isStep 117 = .ok (.getfield 10, 3) := by decide +kernel
theorem dX5_isStep_120 : decode cX5_isStep 120 = .ok (.iload_n 1, 1) := by decide +kernel
theorem dX5_isStep_121 : decode cX5_isStep 121 = .ok (.invokevirtual 59, 3) := by decide +kernel
theorem dX5_isStep_124 : decode cX5_isStep 124 = .ok (.getfield 63, 3) := by decide +kernel
theorem dX5_isStep_127 : decode cX5_isStep 127 = .ok (.if_icmp .gt 20, 3) := by decide +kernel
theorem dX5_isStep_130 : decode cX5_isStep 130 = .ok (.iload 4, 2) := by decide +kernel
theorem dX5_isStep_132 : decode cX5_isStep 132 = .ok (.iconst 1, 1) := by decide +kernel
theorem dX5_isStep_133 : decode cX5_isStep 133 = .ok (.if_icmp .lt 14, 3) := by decide +kernel
theorem dX5_isStep_136 : decode cX5_isStep 136 = .ok (.iload 4, 2) := by decide +kernel
theorem dX5_isStep_138 : decode cX5_isStep 138 = .ok (.bipush 9, 2) := by decide +kernel
theorem dX5_isStep_140 : decode cX5_isStep 140 = .ok (.if_icmp .gt 7, 3) := by decide +kernel
theorem dX5_isStep_143 : decode cX5_isStep 143 = .ok (.iconst 1, 1) := by decide +kernel
theorem dX5_isStep_144 : decode cX5_isStep 144 = .ok (.goto 4, 3) := by decide +kernel
theorem dX5_isStep_147 : decode cX5_isStep 147 = .ok (.iconst 0, 1) := by decide +kernel
theorem dX5_isStep_148 : decode cX5_isStep 148 = .ok (.ireturn, 1) := by decide +kernel
theorem dX5_isStep_149 : decode cX5_isStep 149 = .ok (.iconst 0, 1) := by decide +kernel
theorem dX5_isStep_150 : decode cX5_isStep 150 = .ok (.ireturn, 1) := by decide +kernel
theorem dX6_init_0 : decode cX6_init 0 = .ok (.aload_n 0, 1) := by decide +kernel
theorem dX6_init_1 : decode cX6_init 1 = .ok (.invokespecial 1, 3) := by decide +kernel
theorem dX6_init_4 : decode cX6_init 4 = .ok (.aload_n 0, 1) := by decide +kernel
theorem dX6_init_5 : decode cX6_init 5 = .ok (.iconst 0, 1) := by decide +kernel
theorem dX6_init_6 : decode cX6_init 6 = .ok (.anewarray 7, 3) := by decide +kernel
theorem dX6_init_9 : decode cX6_init 9 = .ok (.putfield 9, 3) := by decide +kernel
theorem dX6_init_12 : decode cX6_init 12 = .ok (.aload_n 0, 1) := by decide +kernel
theorem dX6_init_13 : decode cX6_init 13 = .ok (.iconst 0, 1) := by decide +kernel
theorem dX6_init_14 : decode cX6_init 14 = .ok (.newarray .int, 2) := by decide +kernel
theorem dX6_init_16 : decode cX6_init 16 = .ok (.putfield 15, 3) := by decide +kernel
theorem dX6_init_19 : decode cX6_init 19 = .ok (.aload_n 0, 1) := by decide +kernel
theorem dX6_init_20 : decode cX6_init 20 = .ok (.iconst 5, 1) := by decide +kernel
theorem dX6_init_21 : decode cX6_init 21 = .ok (.putfield 18, 3) := by decide +kernel
theorem dX6_init_24 : decode cX6_init 24 = .ok (.return_, 1) := by decide +kernel
theorem dX7_init_0 : decode cX7_init 0 = .ok (.aload_n 0, 1) := by decide +kernel
theorem dX7_init_1 : decode cX7_init 1 = .ok (.invokespecial 1, 3) := by decide +kernel
theorem dX7_init_4 : decode cX7_init 4 = .ok (.aload_n 0, 1) := by decide +kernel
theorem dX7_init_5 : decode cX7_init 5 = .ok (.iconst 0, 1) := by decide +kernel
theorem dX7_init_6 : decode cX7_init 6 = .ok (.newarray .int, 2) := by decide +kernel
theorem dX7_init_8 : decode cX7_init 8 = .ok (.putfield 7, 3) := by decide +kernel
theorem dX7_init_11 : decode cX7_init 11 = .ok (.aload_n 0, 1) := by decide +kernel
theorem dX7_init_12 : decode cX7_init 12 = .ok (.iconst 0, 1) := by decide +kernel
theorem dX7_init_13 : decode cX7_init 13 = .ok (.anewarray 13, 3) := by decide +kernel
theorem dX7_init_16 : decode cX7_init 16 = .ok (.putfield 14, 3) := by decide +kernel
theorem dX7_init_19 : decode cX7_init 19 = .ok (.aload_n 0, 1) := by decide +kernel
theorem dX7_init_20 : decode cX7_init 20 = .ok (.iconst 0, 1) := by decide +kernel
theorem dX7_init_21 : decode cX7_init 21 = .ok (.anewarray 18, 3) := by decide +kernel
theorem dX7_init_24 : decode cX7_init 24 = .ok (.putfield 20, 3) := by decide +kernel
theorem dX7_init_27 : decode cX7_init 27 = .ok (.aload_n 0, 1) := by decide +kernel
theorem dX7_init_28 : decode cX7_init 28 = .ok (.iconst 0, 1) := by decide +kernel
theorem dX7_init_29 : decode cX7_init 29 = .ok (.newarray .int, 2) := by decide +kernel
theorem dX7_init_31 : decode cX7_init 31 = .ok (.putfield 24, 3) := by decide +kernel
theorem dX7_init_34 : decode cX7_init 34 = .ok (.aload_n 0, 1) := by decide +kernel
theorem dX7_init_35 : decode cX7_init 35 = .ok (.iconst 0, 1) := by decide +kernel
theorem dX7_init_36 : decode cX7_init 36 = .ok (.newarray .int, 2) := by decide +kernel
theorem dX7_init_38 : decode cX7_init 38 = .ok (.putfield 27, 3) := by decide +kernel
theorem dX7_init_41 : decode cX7_init 41 = .ok (.return_, 1) := by decide +kernel
theorem dX7_with_0 : decode cX7_with 0 = .ok (.aload_n 0, 1) := by decide +kernel
theorem dX7_with_1 : decode cX7_with 1 = .ok (.arraylength, 1) := by decide +kernel
theorem dX7_with_2 : decode cX7_with 2 = .ok (.iconst 1, 1) := by decide +kernel
theorem dX7_with_3 : decode cX7_with 3 = .ok (.iadd, 1) := by decide +kernel
theorem dX7_with_4 : decode cX7_with 4 = .ok (.newarray .int, 2) := by decide +kernel
theorem dX7_with_6 : decode cX7_with 6 = .ok (.astore_n 2, 1) := by decide +kernel
theorem dX7_with_7 : decode cX7_with 7 = .ok (.iconst 0, 1) := by decide +kernel
theorem dX7_with_8 : decode cX7_with 8 = .ok (.istore_n 3, 1) := by decide +kernel
theorem dX7_with_9 : decode cX7_with 9 = .ok (.iload_n 3, 1) := by decide +kernel
theorem dX7_with_10 : decode cX7_with 10 = .ok (.aload_n 0, 1) := by decide +kernel
theorem dX7_with_11 : decode cX7_with 11 = .ok (.arraylength, 1) := by decide +kernel
theorem dX7_with_12 : decode cX7_with 12 = .ok (.if_icmp .ge 15, 3) := by decide +kernel
theorem dX7_with_15 : decode cX7_with 15 = .ok (.aload_n 2, 1) := by decide +kernel
theorem dX7_with_16 : decode cX7_with 16 = .ok (.iload_n 3, 1) := by decide +kernel
theorem dX7_with_17 : decode cX7_with 17 = .ok (.aload_n 0, 1) := by decide +kernel
theorem dX7_with_18 : decode cX7_with 18 = .ok (.iload_n 3, 1) := by decide +kernel
theorem dX7_with_19 : decode cX7_with 19 = .ok (.iaload, 1) := by decide +kernel
theorem dX7_with_20 : decode cX7_with 20 = .ok (.iastore, 1) := by decide +kernel
theorem dX7_with_21 : decode cX7_with 21 = .ok (.iinc 3 1, 3) := by decide +kernel
theorem dX7_with_24 : decode cX7_with 24 = .ok (.goto (-15), 3) := by decide +kernel
theorem dX7_with_27 : decode cX7_with 27 = .ok (.aload_n 2, 1) := by decide +kernel
theorem dX7_with_28 : decode cX7_with 28 = .ok (.aload_n 0, 1) := by decide +kernel
theorem dX7_with_29 : decode cX7_with 29 = .ok (.arraylength, 1) := by decide +kernel
theorem dX7_with_30 : decode cX7_with 30 = .ok (.iload_n 1, 1) := by decide +kernel
theorem dX7_with_31 : decode cX7_with 31 = .ok (.iastore, 1) := by decide +kernel
theorem dX7_with_32 : decode cX7_with 32 = .ok (.aload_n 2, 1) := by decide +kernel
theorem dX7_with_33 : decode cX7_with 33 = .ok (.areturn, 1) := by decide +kernel
theorem dX7_without_0 : decode cX7_without 0 = .ok (.aload_n 0, 1) := by decide +kernel
theorem dX7_without_1 : decode cX7_without 1 = .ok (.arraylength, 1) := by decide +kernel
theorem dX7_without_2 : decode cX7_without 2 = .ok (.iconst 1, 1) := by decide +kernel
theorem dX7_without_3 : decode cX7_without 3 = .ok (.isub, 1) := by decide +kernel
theorem dX7_without_4 : decode cX7_without 4 = .ok (.newarray .int, 2) := by decide +kernel
theorem dX7_without_6 : decode cX7_without 6 = .ok (.astore_n 2, 1) := by decide +kernel
theorem dX7_without_7 : decode cX7_without 7 = .ok (.iconst 0, 1) := by decide +kernel
theorem dX7_without_8 : decode cX7_without 8 = .ok (.istore_n 3, 1) := by decide +kernel
theorem dX7_without_9 : decode cX7_without 9 = .ok (.iload_n 3, 1) := by decide +kernel
theorem dX7_without_10 : decode cX7_without 10 = .ok (.aload_n 2, 1) := by decide +kernel
theorem dX7_without_11 : decode cX7_without 11 = .ok (.arraylength, 1) := by decide +kernel
theorem dX7_without_12 : decode cX7_without 12 = .ok (.if_icmp .ge 26, 3) := by decide +kernel
theorem dX7_without_15 : decode cX7_without 15 = .ok (.aload_n 2, 1) := by decide +kernel
theorem dX7_without_16 : decode cX7_without 16 = .ok (.iload_n 3, 1) := by decide +kernel
theorem dX7_without_17 : decode cX7_without 17 = .ok (.aload_n 0, 1) := by decide +kernel
theorem dX7_without_18 : decode cX7_without 18 = .ok (.iload_n 3, 1) := by decide +kernel
theorem dX7_without_19 : decode cX7_without 19 = .ok (.iload_n 1, 1) := by decide +kernel
theorem dX7_without_20 : decode cX7_without 20 = .ok (.if_icmp .ge 7, 3) := by decide +kernel
theorem dX7_without_23 : decode cX7_without 23 = .ok (.iload_n 3, 1) := by decide +kernel
theorem dX7_without_24 : decode cX7_without 24 = .ok (.goto 6, 3) := by decide +kernel
theorem dX7_without_27 : decode cX7_without 27 = .ok (.iload_n 3, 1) := by decide +kernel
theorem dX7_without_28 : decode cX7_without 28 = .ok (.iconst 1, 1) := by decide +kernel
theorem dX7_without_29 : decode cX7_without 29 = .ok (.iadd, 1) := by decide +kernel
theorem dX7_without_30 : decode cX7_without 30 = .ok (.iaload, 1) := by decide +kernel
theorem dX7_without_31 : decode cX7_without 31 = .ok (.iastore, 1) := by decide +kernel
theorem dX7_without_32 : decode cX7_without 32 = .ok (.iinc 3 1, 3) := by decide +kernel
theorem dX7_without_35 : decode cX7_without 35 = .ok (.goto (-26), 3) := by decide +kernel
theorem dX7_without_38 : decode cX7_without 38 = .ok (.aload_n 2, 1) := by decide +kernel
theorem dX7_without_39 : decode cX7_without 39 = .ok (.areturn, 1) := by decide +kernel
theorem dX7_addChannel_0 : decode cX7_addChannel 0 = .ok (.aload_n 0, 1) := by decide +kernel
theorem dX7_addChannel_1 : decode cX7_addChannel 1 = .ok (.getfield 14, 3) := by decide +kernel
theorem dX7_addChannel_4 : decode cX7_addChannel 4 = .ok (.arraylength, 1) := by decide +kernel
theorem dX7_addChannel_5 : decode cX7_addChannel 5 = .ok (.iconst 1, 1) := by decide +kernel
theorem dX7_addChannel_6 : decode cX7_addChannel 6 = .ok (.iadd, 1) := by decide +kernel
theorem dX7_addChannel_7 : decode cX7_addChannel 7 = .ok (.anewarray 13, 3) := by decide +kernel
theorem dX7_addChannel_10 : decode cX7_addChannel 10 = .ok (.astore_n 2, 1) := by decide +kernel
theorem dX7_addChannel_11 : decode cX7_addChannel 11 = .ok (.iconst 0, 1) := by decide +kernel
theorem dX7_addChannel_12 : decode cX7_addChannel 12 = .ok (.istore_n 3, 1) := by decide +kernel
theorem dX7_addChannel_13 : decode cX7_addChannel 13 = .ok (.iload_n 3, 1) := by decide +kernel
theorem dX7_addChannel_14 : decode cX7_addChannel 14 = .ok (.aload_n 0, 1) := by decide +kernel
theorem dX7_addChannel_15 : decode cX7_addChannel 15 = .ok (.getfield 14, 3) := by decide +kernel
theorem dX7_addChannel_18 : decode cX7_addChannel 18 = .ok (.arraylength, 1) := by decide +kernel
theorem dX7_addChannel_19 : decode cX7_addChannel 19 = .ok (.if_icmp .ge 18, 3) := by decide +kernel
theorem dX7_addChannel_22 : decode cX7_addChannel 22 = .ok (.aload_n 2, 1) := by decide +kernel
theorem dX7_addChannel_23 : decode cX7_addChannel 23 = .ok (.iload_n 3, 1) := by decide +kernel
theorem dX7_addChannel_24 : decode cX7_addChannel 24 = .ok (.aload_n 0, 1) := by decide +kernel
theorem dX7_addChannel_25 : decode cX7_addChannel 25 = .ok (.getfield 14, 3) := by decide +kernel
theorem dX7_addChannel_28 : decode cX7_addChannel 28 = .ok (.iload_n 3, 1) := by decide +kernel
theorem dX7_addChannel_29 : decode cX7_addChannel 29 = .ok (.aaload, 1) := by decide +kernel
theorem dX7_addChannel_30 : decode cX7_addChannel 30 = .ok (.aastore, 1) := by decide +kernel
theorem dX7_addChannel_31 : decode cX7_addChannel 31 = .ok (.iinc 3 1, 3) := by decide +kernel
theorem dX7_addChannel_34 : decode cX7_addChannel 34 = .ok (.goto (-21), 3) := by decide +kernel
theorem dX7_addChannel_37 : decode cX7_addChannel 37 = .ok (.aload_n 2, 1) := by decide +kernel
theorem dX7_addChannel_38 : decode cX7_addChannel 38 = .ok (.aload_n 0, 1) := by decide +kernel
theorem dX7_addChannel_39 : decode cX7_addChannel 39 = .ok (.getfield 14, 3) := by decide +kernel
theorem dX7_addChannel_42 : decode cX7_addChannel 42 = .ok (.arraylength, 1) := by decide +kernel
theorem dX7_addChannel_43 : decode cX7_addChannel 43 = .ok (.iconst 0, 1) := by decide +kernel
theorem dX7_addChannel_44 : decode cX7_addChannel 44 = .ok (.newarray .int, 2) := by decide +kernel
theorem dX7_addChannel_46 : decode cX7_addChannel 46 = .ok (.aastore, 1) := by decide +kernel
theorem dX7_addChannel_47 : decode cX7_addChannel 47 = .ok (.aload_n 0, 1) := by decide +kernel
theorem dX7_addChannel_48 : decode cX7_addChannel 48 = .ok (.aload_n 2, 1) := by decide +kernel
theorem dX7_addChannel_49 : decode cX7_addChannel 49 = .ok (.putfield 14, 3) := by decide +kernel
theorem dX7_addChannel_52 : decode cX7_addChannel 52 = .ok (.aload_n 0, 1) := by decide +kernel
theorem dX7_addChannel_53 : decode cX7_addChannel 53 = .ok (.aload_n 0, 1) := by decide +kernel
theorem dX7_addChannel_54 : decode cX7_addChannel 54 = .ok (.getfield 7, 3) := by decide +kernel
theorem dX7_addChannel_57 : decode cX7_addChannel 57 = .ok (.iload_n 1, 1) := by decide +kernel
theorem dX7_addChannel_58 : decode cX7_addChannel 58 = .ok (.invokestatic 67, 3) := by decide +kernel
theorem dX7_addChannel_61 : decode cX7_addChannel 61 = .ok (.putfield 7, 3) := by decide +kernel
theorem dX7_addChannel_64 : decode cX7_addChannel 64 = .ok (.return_, 1) := by decide +kernel
theorem dX7_addFiber_0 : decode cX7_addFiber 0 = .ok (.aload_n 0, 1) := by decide +kernel
theorem dX7_addFiber_1 : decode cX7_addFiber 1 = .ok (.getfield 20, 3) := by decide +kernel
theorem dX7_addFiber_4 : decode cX7_addFiber 4 = .ok (.arraylength, 1) := by decide +kernel
theorem dX7_addFiber_5 : decode cX7_addFiber 5 = .ok (.iconst 1, 1) := by decide +kernel
theorem dX7_addFiber_6 : decode cX7_addFiber 6 = .ok (.iadd, 1) := by decide +kernel
theorem dX7_addFiber_7 : decode cX7_addFiber 7 = .ok (.anewarray 18, 3) := by decide +kernel
theorem dX7_addFiber_10 : decode cX7_addFiber 10 = .ok (.astore_n 1, 1) := by decide +kernel
theorem dX7_addFiber_11 : decode cX7_addFiber 11 = .ok (.iconst 0, 1) := by decide +kernel
theorem dX7_addFiber_12 : decode cX7_addFiber 12 = .ok (.istore_n 2, 1) := by decide +kernel
theorem dX7_addFiber_13 : decode cX7_addFiber 13 = .ok (.iload_n 2, 1) := by decide +kernel
theorem dX7_addFiber_14 : decode cX7_addFiber 14 = .ok (.aload_n 0, 1) := by decide +kernel
theorem dX7_addFiber_15 : decode cX7_addFiber 15 = .ok (.getfield 20, 3) := by decide +kernel
theorem dX7_addFiber_18 : decode cX7_addFiber 18 = .ok (.arraylength, 1) := by decide +kernel
theorem dX7_addFiber_19 : decode cX7_addFiber 19 = .ok (.if_icmp .ge 18, 3) := by decide +kernel
theorem dX7_addFiber_22 : decode cX7_addFiber 22 = .ok (.aload_n 1, 1) := by decide +kernel
theorem dX7_addFiber_23 : decode cX7_addFiber 23 = .ok (.iload_n 2, 1) := by decide +kernel
theorem dX7_addFiber_24 : decode cX7_addFiber 24 = .ok (.aload_n 0, 1) := by decide +kernel
theorem dX7_addFiber_25 : decode cX7_addFiber 25 = .ok (.getfield 20, 3) := by decide +kernel
theorem dX7_addFiber_28 : decode cX7_addFiber 28 = .ok (.iload_n 2, 1) := by decide +kernel
theorem dX7_addFiber_29 : decode cX7_addFiber 29 = .ok (.aaload, 1) := by decide +kernel
theorem dX7_addFiber_30 : decode cX7_addFiber 30 = .ok (.aastore, 1) := by decide +kernel
theorem dX7_addFiber_31 : decode cX7_addFiber 31 = .ok (.iinc 2 1, 3) := by decide +kernel
theorem dX7_addFiber_34 : decode cX7_addFiber 34 = .ok (.goto (-21), 3) := by decide +kernel
theorem dX7_addFiber_37 : decode cX7_addFiber 37 = .ok (.aload_n 1, 1) := by decide +kernel
theorem dX7_addFiber_38 : decode cX7_addFiber 38 = .ok (.aload_n 0, 1) := by decide +kernel
theorem dX7_addFiber_39 : decode cX7_addFiber 39 = .ok (.getfield 20, 3) := by decide +kernel
theorem dX7_addFiber_42 : decode cX7_addFiber 42 = .ok (.arraylength, 1) := by decide +kernel
theorem dX7_addFiber_43 : decode cX7_addFiber 43 = .ok (.new 18, 3) := by decide +kernel
theorem dX7_addFiber_46 : decode cX7_addFiber 46 = .ok (.dup, 1) := by decide +kernel
theorem dX7_addFiber_47 : decode cX7_addFiber 47 = .ok (.invokespecial 42, 3) := by decide +kernel
theorem dX7_addFiber_50 : decode cX7_addFiber 50 = .ok (.aastore, 1) := by decide +kernel
theorem dX7_addFiber_51 : decode cX7_addFiber 51 = .ok (.aload_n 0, 1) := by decide +kernel
theorem dX7_addFiber_52 : decode cX7_addFiber 52 = .ok (.aload_n 1, 1) := by decide +kernel
theorem dX7_addFiber_53 : decode cX7_addFiber 53 = .ok (.putfield 20, 3) := by decide +kernel
theorem dX7_addFiber_56 : decode cX7_addFiber 56 = .ok (.return_, 1) := by decide +kernel
theorem dX7_canAdd_0 : decode cX7_canAdd 0 = .ok (.iload_n 2, 1) := by decide +kernel
theorem dX7_canAdd_1 : decode cX7_canAdd 1 = .ok (.ifCond .lt 9, 3) := by decide +kernel
theorem dX7_canAdd_4 : decode cX7_canAdd 4 = .ok (.iload_n 2, 1) := by decide +kernel
theorem dX7_canAdd_5 : decode cX7_canAdd 5 = .ok (.bipush 6, 2) := by decide +kernel
theorem dX7_canAdd_7 : decode cX7_canAdd 7 = .ok (.if_icmp .le 5, 3) := by decide +kernel
theorem dX7_canAdd_10 : decode cX7_canAdd 10 = .ok (.iconst 0, 1) := by decide +kernel
theorem dX7_canAdd_11 : decode cX7_canAdd 11 = .ok (.ireturn, 1) := by decide +kernel
theorem dX7_canAdd_12 : decode cX7_canAdd 12 = .ok (.iload_n 2, 1) := by decide +kernel
theorem dX7_canAdd_13 : decode cX7_canAdd 13 = .ok (.iconst 2, 1) := by decide +kernel
theorem dX7_canAdd_14 : decode cX7_canAdd 14 = .ok (.if_icmp .ne 19, 3) := by decide +kernel
theorem dX7_canAdd_17 : decode cX7_canAdd 17 = .ok (.iload_n 3, 1) := by decide +kernel
theorem dX7_canAdd_18 : decode cX7_canAdd 18 = .ok (.ifCond .le 13, 3) := by decide +kernel
theorem dX7_canAdd_21 : decode cX7_canAdd 21 = .ok (.iload_n 3, 1) := by decide +kernel
theorem dX7_canAdd_22 : decode cX7_canAdd 22 = .ok (.bipush 21, 2) := by decide +kernel
theorem dX7_canAdd_24 : decode cX7_canAdd 24 = .ok (.if_icmp .ge 7, 3) := by decide +kernel
theorem dX7_canAdd_27 : decode cX7_canAdd 27 = .ok (.iconst 1, 1) := by decide +kernel
theorem dX7_canAdd_28 : decode cX7_canAdd 28 = .ok (.goto 4, 3) := by decide +kernel
theorem dX7_canAdd_31 : decode cX7_canAdd 31 = .ok (.iconst 0, 1) := by decide +kernel
theorem dX7_canAdd_32 : decode cX7_canAdd 32 = .ok (.ireturn, 1) := by decide +kernel
theorem dX7_canAdd_33 : decode cX7_canAdd 33 = .ok (.iload_n 2, 1) := by decide +kernel
theorem dX7_canAdd_34 : decode cX7_canAdd 34 = .ok (.iconst 3, 1) := by decide +kernel
theorem dX7_canAdd_35 : decode cX7_canAdd 35 = .ok (.if_icmp .ne 5, 3) := by decide +kernel
theorem dX7_canAdd_38 : decode cX7_canAdd 38 = .ok (.iconst 1, 1) := by decide +kernel
theorem dX7_canAdd_39 : decode cX7_canAdd 39 = .ok (.ireturn, 1) := by decide +kernel
theorem dX7_canAdd_40 : decode cX7_canAdd 40 = .ok (.iload_n 2, 1) := by decide +kernel
theorem dX7_canAdd_41 : decode cX7_canAdd 41 = .ok (.iconst 4, 1) := by decide +kernel
theorem dX7_canAdd_42 : decode cX7_canAdd 42 = .ok (.if_icmp .ne 27, 3) := by decide +kernel
theorem dX7_canAdd_45 : decode cX7_canAdd 45 = .ok (.iload_n 3, 1) := by decide +kernel
theorem dX7_canAdd_46 : decode cX7_canAdd 46 = .ok (.ifCond .lt 21, 3) := by decide +kernel
theorem dX7_canAdd_49 : decode cX7_canAdd 49 = .ok (.iload_n 3, 1) := by decide +kernel
theorem dX7_canAdd_50 : decode cX7_canAdd 50 = .ok (.aload_n 0, 1) := by decide +kernel
theorem dX7_canAdd_51 : decode cX7_canAdd 51 = .ok (.getfield 20, 3) := by decide +kernel
theorem dX7_canAdd_54 : decode cX7_canAdd 54 = .ok (.arraylength, 1) := by decide +kernel
theorem dX7_canAdd_55 : decode cX7_canAdd 55 = .ok (.if_icmp .ge 12, 3) := by decide +kernel
theorem dX7_canAdd_58 : decode cX7_canAdd 58 = .ok (.iload_n 3, 1) := by decide +kernel
theorem dX7_canAdd_59 : decode cX7_canAdd 59 = .ok (.iload_n 1, 1) := by decide +kernel
theorem dX7_canAdd_60 : decode cX7_canAdd 60 = .ok (.if_icmp .eq 7, 3) := by decide +kernel
theorem dX7_canAdd_63 : decode cX7_canAdd 63 = .ok (.iconst 1, 1) := by decide +kernel
theorem dX7_canAdd_64 : decode cX7_canAdd 64 = .ok (.goto 4, 3) := by decide +kernel
theorem dX7_canAdd_67 : decode cX7_canAdd 67 = .ok (.iconst 0, 1) := by decide +kernel
theorem dX7_canAdd_68 : decode cX7_canAdd 68 = .ok (.ireturn, 1) := by decide +kernel
theorem dX7_canAdd_69 : decode cX7_canAdd 69 = .ok (.iload_n 2, 1) := by decide +kernel
theorem dX7_canAdd_70 : decode cX7_canAdd 70 = .ok (.iconst 5, 1) := by decide +kernel
theorem dX7_canAdd_71 : decode cX7_canAdd 71 = .ok (.if_icmp .ne 39, 3) := by decide +kernel
theorem dX7_canAdd_74 : decode cX7_canAdd 74 = .ok (.iload_n 3, 1) := by decide +kernel
theorem dX7_canAdd_75 : decode cX7_canAdd 75 = .ok (.ifCond .lt 33, 3) := by decide +kernel
theorem dX7_canAdd_78 : decode cX7_canAdd 78 = .ok (.iload_n 3, 1) := by decide +kernel
theorem dX7_canAdd_79 : decode cX7_canAdd 79 = .ok (.aload_n 0, 1) := by decide +kernel
theorem dX7_canAdd_80 : decode cX7_canAdd 80 = .ok (.getfield 20, 3) := by decide +kernel
theorem dX7_canAdd_83 : decode cX7_canAdd 83 = .ok (.iload_n 1, 1) := by decide +kernel
theorem dX7_canAdd_84 : decode cX7_canAdd 84 = .ok (.aaload, 1) := by decide +kernel
theorem dX7_canAdd_85 : decode cX7_canAdd 85 = .ok (.getfield 43, 3) := by decide +kernel
theorem dX7_canAdd_88 : decode cX7_canAdd 88 = .ok (.arraylength, 1) := by decide +kernel
theorem dX7_canAdd_89 : decode cX7_canAdd 89 = .ok (.if_icmp .gt 19, 3) := by decide +kernel
theorem dX7_canAdd_92 : decode cX7_canAdd 92 = .ok (.iload 4, 2) := by decide +kernel
theorem dX7_canAdd_94 : decode cX7_canAdd 94 = .ok (.ifCond .le 14, 3) := by decide +kernel
theorem dX7_canAdd_97 : decode cX7_canAdd 97 = .ok (.iload 4, 2) := by decide +kernel
theorem dX7_canAdd_99 : decode cX7_canAdd 99 = .ok (.bipush 10, 2) := by decide +kernel
theorem dX7_canAdd_101 : decode cX7_canAdd 101 = .ok (.if_icmp .ge 7, 3) := by decide +kernel
theorem dX7_canAdd_104 : decode cX7_canAdd 104 = .ok (.iconst 1, 1) := by decide +kernel
theorem dX7_canAdd_105 : decode cX7_canAdd 105 = .ok (.goto 4, 3) := by decide +kernel
theorem dX7_canAdd_108 : decode cX7_canAdd 108 = .ok (.iconst 0, 1) := by decide +kernel
theorem dX7_canAdd_109 : decode cX7_canAdd 109 = .ok (.ireturn, 1) := by decide +kernel
theorem dX7_canAdd_110 : decode cX7_canAdd 110 = .ok (.iload_n 3, 1) := by decide +kernel
theorem dX7_canAdd_111 : decode cX7_canAdd 111 = .ok (.ifCond .lt 36, 3) := by decide +kernel
theorem dX7_canAdd_114 : decode cX7_canAdd 114 = .ok (.iload_n 3, 1) := by decide +kernel
theorem dX7_canAdd_115 : decode cX7_canAdd 115 = .ok (.aload_n 0, 1) := by decide +kernel
theorem dX7_canAdd_116 : decode cX7_canAdd 116 = .ok (.getfield 7, 3) := by decide +kernel
theorem dX7_canAdd_119 : decode cX7_canAdd 119 = .ok (.arraylength, 1) := by decide +kernel
theorem dX7_canAdd_120 : decode cX7_canAdd 120 = .ok (.if_icmp .ge 27, 3) := by decide +kernel
theorem dX7_canAdd_123 : decode cX7_canAdd 123 = .ok (.iload_n 2, 1) := by decide +kernel
theorem dX7_canAdd_124 : decode cX7_canAdd 124 = .ok (.ifCond .ne 19, 3) := by decide +kernel
theorem dX7_canAdd_127 : decode cX7_canAdd 127 = .ok (.iload 4, 2) := by decide +kernel
theorem dX7_canAdd_129 : decode cX7_canAdd 129 = .ok (.sipush (-999), 3) := by decide +kernel
theorem dX7_canAdd_132 : decode cX7_canAdd 132 = .ok (.if_icmp .lt 15, 3) := by decide +kernel
theorem dX7_canAdd_135 : decode cX7_canAdd 135 = .ok (.iload 4, 2) := by decide +kernel
theorem dX7_canAdd_137 : decode cX7_canAdd 137 = .ok (.sipush 999, 3) := by decide +kernel
theorem dX7_canAdd_140 : decode cX7_canAdd 140 = .ok (.if_icmp .gt 7, 3) := by decide +kernel
theorem dX7_canAdd_143 : decode cX7_canAdd 143 = .ok (.iconst 1, 1) := by decide +kernel
theorem dX7_canAdd_144 : decode cX7_canAdd 144 = .ok (.goto 4, 3) := by decide +kernel
theorem dX7_canAdd_147 : decode cX7_canAdd 147 = .ok (.iconst 0, 1) := by decide +kernel
theorem dX7_canAdd_148 : decode cX7_canAdd 148 = .ok (.ireturn, 1) := by decide +kernel
theorem dX7_addStep_0 : decode cX7_addStep 0 = .ok (.aload_n 0, 1) := by decide +kernel
theorem dX7_addStep_1 : decode cX7_addStep 1 = .ok (.getfield 20, 3) := by decide +kernel
theorem dX7_addStep_4 : decode cX7_addStep 4 = .ok (.iload_n 1, 1) := by decide +kernel
theorem dX7_addStep_5 : decode cX7_addStep 5 = .ok (.aaload, 1) := by decide +kernel
theorem dX7_addStep_6 : decode cX7_addStep 6 = .ok (.astore 5, 2) := by decide +kernel
theorem dX7_addStep_8 : decode cX7_addStep 8 = .ok (.aload 5, 2) := by decide +kernel
theorem dX7_addStep_10 : decode cX7_addStep 10 = .ok (.getfield 43, 3) := by decide +kernel
theorem dX7_addStep_13 : decode cX7_addStep 13 = .ok (.arraylength, 1) := by decide +kernel
theorem dX7_addStep_14 : decode cX7_addStep 14 = .ok (.istore 6, 2) := by decide +kernel
theorem dX7_addStep_16 : decode cX7_addStep 16 = .ok (.iload 6, 2) := by decide +kernel
theorem dX7_addStep_18 : decode cX7_addStep 18 = .ok (.iconst 1, 1) := by decide +kernel
theorem dX7_addStep_19 : decode cX7_addStep 19 = .ok (.iadd, 1) := by decide +kernel
theorem dX7_addStep_20 : decode cX7_addStep 20 = .ok (.anewarray 13, 3) := by decide +kernel
theorem dX7_addStep_23 : decode cX7_addStep 23 = .ok (.astore 7, 2) := by decide +kernel
theorem dX7_addStep_25 : decode cX7_addStep 25 = .ok (.iconst 0, 1) := by decide +kernel
theorem dX7_addStep_26 : decode cX7_addStep 26 = .ok (.istore 8, 2) := by decide +kernel
theorem dX7_addStep_28 : decode cX7_addStep 28 = .ok (.iload 8, 2) := by decide +kernel
theorem dX7_addStep_30 : decode cX7_addStep 30 = .ok (.iload 6, 2) := by decide +kernel
theorem dX7_addStep_32 : decode cX7_addStep 32 = .ok (.if_icmp .ge 22, 3) := by decide +kernel
theorem dX7_addStep_35 : decode cX7_addStep 35 = .ok (.aload 7, 2) := by decide +kernel
theorem dX7_addStep_37 : decode cX7_addStep 37 = .ok (.iload 8, 2) := by decide +kernel
theorem dX7_addStep_39 : decode cX7_addStep 39 = .ok (.aload 5, 2) := by decide +kernel
theorem dX7_addStep_41 : decode cX7_addStep 41 = .ok (.getfield 43, 3) := by decide +kernel
theorem dX7_addStep_44 : decode cX7_addStep 44 = .ok (.iload 8, 2) := by decide +kernel
theorem dX7_addStep_46 : decode cX7_addStep 46 = .ok (.aaload, 1) := by decide +kernel
theorem dX7_addStep_47 : decode cX7_addStep 47 = .ok (.aastore, 1) := by decide +kernel
theorem dX7_addStep_48 : decode cX7_addStep 48 = .ok (.iinc 8 1, 3) := by decide +kernel
theorem dX7_addStep_51 : decode cX7_addStep 51 = .ok (.goto (-23), 3) := by decide +kernel
theorem dX7_addStep_54 : decode cX7_addStep 54 = .ok (.aload 7, 2) := by decide +kernel
theorem dX7_addStep_56 : decode cX7_addStep 56 = .ok (.iload 6, 2) := by decide +kernel
theorem dX7_addStep_58 : decode cX7_addStep 58 = .ok (.iconst 3, 1) := by decide +kernel
theorem dX7_addStep_59 : decode cX7_addStep 59 = .ok (.newarray .int, 2) := by decide +kernel
theorem dX7_addStep_61 : decode cX7_addStep 61 = .ok (.dup, 1) := by decide +kernel
theorem dX7_addStep_62 : decode cX7_addStep 62 = .ok (.iconst 0, 1) := by decide +kernel
theorem dX7_addStep_63 : decode cX7_addStep 63 = .ok (.iload_n 2, 1) := by decide +kernel
theorem dX7_addStep_64 : decode cX7_addStep 64 = .ok (.iastore, 1) := by decide +kernel
theorem dX7_addStep_65 : decode cX7_addStep 65 = .ok (.dup, 1) := by decide +kernel
theorem dX7_addStep_66 : decode cX7_addStep 66 = .ok (.iconst 1, 1) := by decide +kernel
theorem dX7_addStep_67 : decode cX7_addStep 67 = .ok (.iload_n 3, 1) := by decide +kernel
theorem dX7_addStep_68 : decode cX7_addStep 68 = .ok (.iastore, 1) := by decide +kernel
theorem dX7_addStep_69 : decode cX7_addStep 69 = .ok (.dup, 1) := by decide +kernel
theorem dX7_addStep_70 : decode cX7_addStep 70 = .ok (.iconst 2, 1) := by decide +kernel
theorem dX7_addStep_71 : decode cX7_addStep 71 = .ok (.iload 4, 2) := by decide +kernel
theorem dX7_addStep_73 : decode cX7_addStep 73 = .ok (.iastore, 1) := by decide +kernel
theorem dX7_addStep_74 : decode cX7_addStep 74 = .ok (.aastore, 1) := by decide +kernel
theorem dX7_addStep_75 : decode cX7_addStep 75 = .ok (.aload 5, 2) := by decide +kernel
theorem dX7_addStep_77 : decode cX7_addStep 77 = .ok (.aload 7, 2) := by decide +kernel
theorem dX7_addStep_79 : decode cX7_addStep 79 = .ok (.putfield 43, 3) := by decide +kernel
theorem dX7_addStep_82 : decode cX7_addStep 82 = .ok (.aload 5, 2) := by decide +kernel
theorem dX7_addStep_84 : decode cX7_addStep 84 = .ok (.aload 5, 2) := by decide +kernel
theorem dX7_addStep_86 : decode cX7_addStep 86 = .ok (.getfield 46, 3) := by decide +kernel
theorem dX7_addStep_89 : decode cX7_addStep 89 = .ok (.iconst 0, 1) := by decide +kernel
theorem dX7_addStep_90 : decode cX7_addStep 90 = .ok (.invokestatic 67, 3) := by decide +kernel
theorem dX7_addStep_93 : decode cX7_addStep 93 = .ok (.putfield 46, 3) := by decide +kernel
theorem dX7_addStep_96 : decode cX7_addStep 96 = .ok (.aload 5, 2) := by decide +kernel
theorem dX7_addStep_98 : decode cX7_addStep 98 = .ok (.getfield 55, 3) := by decide +kernel
theorem dX7_addStep_101 : decode cX7_addStep 101 = .ok (.iconst 5, 1) := by decide +kernel
theorem dX7_addStep_102 : decode cX7_addStep 102 = .ok (.if_icmp .ne 8, 3) := by decide +kernel
theorem dX7_addStep_105 : decode cX7_addStep 105 = .ok (.aload_n 0, 1) := by decide +kernel
theorem dX7_addStep_106 : decode cX7_addStep 106 = .ok (.iload_n 1, 1) := by decide +kernel
theorem dX7_addStep_107 : decode cX7_addStep 107 = .ok (.invokevirtual 71, 3) := by decide +kernel
theorem dX7_addStep_110 : decode cX7_addStep 110 = .ok (.return_, 1) := by decide +kernel
theorem dX7_ready_0 : decode cX7_ready 0 = .ok (.aload_n 0, 1) := by decide +kernel
theorem dX7_ready_1 : decode cX7_ready 1 = .ok (.getfield 20, 3) := by decide +kernel
theorem dX7_ready_4 : decode cX7_ready 4 = .ok (.iload_n 1, 1) := by decide +kernel
theorem dX7_ready_5 : decode cX7_ready 5 = .ok (.aaload, 1) := by decide +kernel
theorem dX7_ready_6 : decode cX7_ready 6 = .ok (.iconst 0, 1) := by decide +kernel
theorem dX7_ready_7 : decode cX7_ready 7 = .ok (.putfield 55, 3) := by decide +kernel
theorem dX7_ready_10 : decode cX7_ready 10 = .ok (.aload_n 0, 1) := by decide +kernel
theorem dX7_ready_11 : decode cX7_ready 11 = .ok (.aload_n 0, 1) := by decide +kernel
theorem dX7_ready_12 : decode cX7_ready 12 = .ok (.getfield 24, 3) := by decide +kernel
theorem dX7_ready_15 : decode cX7_ready 15 = .ok (.iload_n 1, 1) := by decide +kernel
theorem dX7_ready_16 : decode cX7_ready 16 = .ok (.invokestatic 67, 3) := by decide +kernel
theorem dX7_ready_19 : decode cX7_ready 19 = .ok (.putfield 24, 3) := by decide +kernel
theorem dX7_ready_22 : decode cX7_ready 22 = .ok (.return_, 1) := by decide +kernel
theorem dX7_waitIn_0 : decode cX7_waitIn 0 = .ok (.aload_n 0, 1) := by decide +kernel
theorem dX7_waitIn_1 : decode cX7_waitIn 1 = .ok (.getfield 20, 3) := by decide +kernel
theorem dX7_waitIn_4 : decode cX7_waitIn 4 = .ok (.iload_n 1, 1) := by decide +kernel
theorem dX7_waitIn_5 : decode cX7_waitIn 5 = .ok (.aaload, 1) := by decide +kernel
theorem dX7_waitIn_6 : decode cX7_waitIn 6 = .ok (.iload_n 2, 1) := by decide +kernel
theorem dX7_waitIn_7 : decode cX7_waitIn 7 = .ok (.putfield 55, 3) := by decide +kernel
theorem dX7_waitIn_10 : decode cX7_waitIn 10 = .ok (.aload_n 0, 1) := by decide +kernel
theorem dX7_waitIn_11 : decode cX7_waitIn 11 = .ok (.aload_n 0, 1) := by decide +kernel
theorem dX7_waitIn_12 : decode cX7_waitIn 12 = .ok (.getfield 27, 3) := by decide +kernel
theorem dX7_waitIn_15 : decode cX7_waitIn 15 = .ok (.iload_n 1, 1) := by decide +kernel
theorem dX7_waitIn_16 : decode cX7_waitIn 16 = .ok (.invokestatic 67, 3) := by decide +kernel
theorem dX7_waitIn_19 : decode cX7_waitIn 19 = .ok (.putfield 27, 3) := by decide +kernel
theorem dX7_waitIn_22 : decode cX7_waitIn 22 = .ok (.return_, 1) := by decide +kernel
theorem dX7_wake_0 : decode cX7_wake 0 = .ok (.iconst 0, 1) := by decide +kernel
theorem dX7_wake_1 : decode cX7_wake 1 = .ok (.istore_n 3, 1) := by decide +kernel
theorem dX7_wake_2 : decode cX7_wake 2 = .ok (.iload_n 3, 1) := by decide +kernel
theorem dX7_wake_3 : decode cX7_wake 3 = .ok (.aload_n 0, 1) := by decide +kernel
theorem dX7_wake_4 : decode cX7_wake 4 = .ok (.getfield 27, 3) := by decide +kernel
theorem dX7_wake_7 : decode cX7_wake 7 = .ok (.arraylength, 1) := by decide +kernel
theorem dX7_wake_8 : decode cX7_wake 8 = .ok (.if_icmp .ge 78, 3) := by decide +kernel
theorem dX7_wake_11 : decode cX7_wake 11 = .ok (.aload_n 0, 1) := by decide +kernel
theorem dX7_wake_12 : decode cX7_wake 12 = .ok (.getfield 20, 3) := by decide +kernel
theorem dX7_wake_15 : decode cX7_wake 15 = .ok (.aload_n 0, 1) := by decide +kernel
theorem dX7_wake_16 : decode cX7_wake 16 = .ok (.getfield 27, 3) := by decide +kernel
theorem dX7_wake_19 : decode cX7_wake 19 = .ok (.iload_n 3, 1) := by decide +kernel
theorem dX7_wake_20 : decode cX7_wake 20 = .ok (.iaload, 1) := by decide +kernel
theorem dX7_wake_21 : decode cX7_wake 21 = .ok (.aaload, 1) := by decide +kernel
theorem dX7_wake_22 : decode cX7_wake 22 = .ok (.astore 4, 2) := by decide +kernel
theorem dX7_wake_24 : decode cX7_wake 24 = .ok (.aload 4, 2) := by decide +kernel
theorem dX7_wake_26 : decode cX7_wake 26 = .ok (.getfield 55, 3) := by decide +kernel
theorem dX7_wake_29 : decode cX7_wake 29 = .ok (.iload_n 1, 1) := by decide +kernel
theorem dX7_wake_30 : decode cX7_wake 30 = .ok (.if_icmp .ne 50, 3) := by decide +kernel
theorem dX7_wake_33 : decode cX7_wake 33 = .ok (.aload 4, 2) := by decide +kernel
theorem dX7_wake_35 : decode cX7_wake 35 = .ok (.getfield 43, 3) := by decide +kernel
theorem dX7_wake_38 : decode cX7_wake 38 = .ok (.aload 4, 2) := by decide +kernel
theorem dX7_wake_40 : decode cX7_wake 40 = .ok (.getfield 49, 3) := by decide +kernel
theorem dX7_wake_43 : decode cX7_wake 43 = .ok (.aaload, 1) := by decide +kernel
theorem dX7_wake_44 : decode cX7_wake 44 = .ok (.iconst 1, 1) := by decide +kernel
theorem dX7_wake_45 : decode cX7_wake 45 = .ok (.iaload, 1) := by decide +kernel
theorem dX7_wake_46 : decode cX7_wake 46 = .ok (.iload_n 2, 1) := by decide +kernel
theorem dX7_wake_47 : decode cX7_wake 47 = .ok (.if_icmp .eq 6, 3) := by decide +kernel
theorem dX7_wake_50 : decode cX7_wake 50 = .ok (.goto 30, 3) := by decide +kernel
theorem dX7_wake_53 : decode cX7_wake 53 = .ok (.aload_n 0, 1) := by decide +kernel
theorem dX7_wake_54 : decode cX7_wake 54 = .ok (.getfield 27, 3) := by decide +kernel
theorem dX7_wake_57 : decode cX7_wake 57 = .ok (.iload_n 3, 1) := by decide +kernel
theorem dX7_wake_58 : decode cX7_wake 58 = .ok (.iaload, 1) := by decide +kernel
theorem dX7_wake_59 : decode cX7_wake 59 = .ok (.istore 5, 2) := by decide +kernel
theorem dX7_wake_61 : decode cX7_wake 61 = .ok (.aload_n 0, 1) := by decide +kernel
theorem dX7_wake_62 : decode cX7_wake 62 = .ok (.aload_n 0, 1) := by decide +kernel
theorem dX7_wake_63 : decode cX7_wake 63 = .ok (.getfield 27, 3) := by decide +kernel
theorem dX7_wake_66 : decode cX7_wake 66 = .ok (.iload_n 3, 1) := by decide +kernel
theorem dX7_wake_67 : decode cX7_wake 67 = .ok (.invokestatic 75, 3) := by decide +kernel
theorem dX7_wake_70 : decode cX7_wake 70 = .ok (.putfield 27, 3) := by decide +kernel
theorem dX7_wake_73 : decode cX7_wake 73 = .ok (.aload_n 0, 1) := by decide +kernel
theorem dX7_wake_74 : decode cX7_wake 74 = .ok (.iload 5, 2) := by decide +kernel
theorem dX7_wake_76 : decode cX7_wake 76 = .ok (.invokevirtual 71, 3) := by decide +kernel
theorem dX7_wake_79 : decode cX7_wake 79 = .ok (.return_, 1) := by decide +kernel
theorem dX7_wake_80 : decode cX7_wake 80 = .ok (.iinc 3 1, 3) := by decide +kernel
theorem dX7_wake_83 : decode cX7_wake 83 = .ok (.goto (-81), 3) := by decide +kernel
theorem dX7_wake_86 : decode cX7_wake 86 = .ok (.return_, 1) := by decide +kernel
theorem dX7_waitingAt_0 : decode cX7_waitingAt 0 = .ok (.iconst 0, 1) := by decide +kernel
theorem dX7_waitingAt_1 : decode cX7_waitingAt 1 = .ok (.istore_n 3, 1) := by decide +kernel
theorem dX7_waitingAt_2 : decode cX7_waitingAt 2 = .ok (.aload_n 0, 1) := by decide +kernel
theorem dX7_waitingAt_3 : decode cX7_waitingAt 3 = .ok (.getfield 20, 3) := by decide +kernel
theorem dX7_waitingAt_6 : decode cX7_waitingAt 6 = .ok (.astore 4, 2) := by decide +kernel
theorem dX7_waitingAt_8 : decode cX7_waitingAt 8 = .ok (.aload 4, 2) := by decide +kernel
theorem dX7_waitingAt_10 : decode cX7_waitingAt 10 = .ok (.arraylength, 1) := by decide +kernel
theorem dX7_waitingAt_11 : decode cX7_waitingAt 11 = .ok (.istore 5, 2) := by decide +kernel
theorem dX7_waitingAt_13 : decode cX7_waitingAt 13 = .ok (.iconst 0, 1) := by decide +kernel
theorem dX7_waitingAt_14 : decode cX7_waitingAt 14 = .ok (.istore 6, 2) := by decide +kernel
theorem dX7_waitingAt_16 : decode cX7_waitingAt 16 = .ok (.iload 6, 2) := by decide +kernel
theorem dX7_waitingAt_18 : decode cX7_waitingAt 18 = .ok (.iload 5, 2) := by decide +kernel
theorem dX7_waitingAt_20 : decode cX7_waitingAt 20 = .ok (.if_icmp .ge 50, 3) := by decide +kernel
theorem dX7_waitingAt_23 : decode cX7_waitingAt 23 = .ok (.aload 4, 2) := by decide +kernel
theorem dX7_waitingAt_25 : decode cX7_waitingAt 25 = .ok (.iload 6, 2) := by decide +kernel
theorem dX7_waitingAt_27 : decode cX7_waitingAt 27 = .ok (.aaload, 1) := by decide +kernel
theorem dX7_waitingAt_28 : decode cX7_waitingAt 28 = .ok (.astore 7, 2) := by decide +kernel
theorem dX7_waitingAt_30 : decode cX7_waitingAt 30 = .ok (.iload_n 3, 1) := by decide +kernel
theorem dX7_waitingAt_31 : decode cX7_waitingAt 31 = .ok (.aload 7, 2) := by decide +kernel
theorem dX7_waitingAt_33 : decode cX7_waitingAt 33 = .ok (.getfield 55, 3) := by decide +kernel
theorem dX7_waitingAt_36 : decode cX7_waitingAt 36 = .ok (.iload_n 1, 1) := by decide +kernel
theorem dX7_waitingAt_37 : decode cX7_waitingAt 37 = .ok (.if_icmp .ne 24, 3) := by decide +kernel
theorem dX7_waitingAt_40 : decode cX7_waitingAt 40 = .ok (.aload 7, 2) := by decide +kernel
theorem dX7_waitingAt_42 : decode cX7_waitingAt 42 = .ok (.getfield 43, 3) := by decide +kernel
theorem dX7_waitingAt_45 : decode cX7_waitingAt 45 = .ok (.aload 7, 2) := by decide +kernel
theorem dX7_waitingAt_47 : decode cX7_waitingAt 47 = .ok (.getfield 49, 3) := by decide +kernel
theorem dX7_waitingAt_50 : decode cX7_waitingAt 50 = .ok (.aaload, 1) := by decide +kernel
theorem dX7_waitingAt_51 : decode cX7_waitingAt 51 = .ok (.iconst 1, 1) := by decide +kernel
theorem dX7_waitingAt_52 : decode cX7_waitingAt 52 = .ok (.iaload, 1) := by decide +kernel
theorem dX7_waitingAt_53 : decode cX7_waitingAt 53 = .ok (.iload_n 2, 1) := by decide +kernel
theorem dX7_waitingAt_54 : decode cX7_waitingAt 54 = .ok (.if_icmp .ne 7, 3) := by decide +kernel
theorem dX7_waitingAt_57 : decode cX7_waitingAt 57 = .ok (.iconst 1, 1) := by decide +kernel
theorem dX7_waitingAt_58 : decode cX7_waitingAt 58 = .ok (.goto 4, 3) := by decide +kernel
theorem dX7_waitingAt_61 : decode cX7_waitingAt 61 = .ok (.iconst 0, 1) := by decide +kernel
theorem dX7_waitingAt_62 : decode cX7_waitingAt 62 = .ok (.iadd, 1) := by decide +kernel
theorem dX7_waitingAt_63 : decode cX7_waitingAt 63 = .ok (.istore_n 3, 1) := by decide +kernel
theorem dX7_waitingAt_64 : decode cX7_waitingAt 64 = .ok (.iinc 6 1, 3) := by decide +kernel
theorem dX7_waitingAt_67 : decode cX7_waitingAt 67 = .ok (.goto (-51), 3) := by decide +kernel
theorem dX7_waitingAt_70 : decode cX7_waitingAt 70 = .ok (.iload_n 3, 1) := by decide +kernel
theorem dX7_waitingAt_71 : decode cX7_waitingAt 71 = .ok (.ireturn, 1) := by decide +kernel
theorem dX7_isSent_0 : decode cX7_isSent 0 = .ok (.aload_n 0, 1) := by decide +kernel
theorem dX7_isSent_1 : decode cX7_isSent 1 = .ok (.getfield 14, 3) := by decide +kernel
theorem dX7_isSent_4 : decode cX7_isSent 4 = .ok (.iload_n 1, 1) := by decide +kernel
theorem dX7_isSent_5 : decode cX7_isSent 5 = .ok (.aaload, 1) := by decide +kernel
theorem dX7_isSent_6 : decode cX7_isSent 6 = .ok (.arraylength, 1) := by decide +kernel
theorem dX7_isSent_7 : decode cX7_isSent 7 = .ok (.aload_n 0, 1) := by decide +kernel
theorem dX7_isSent_8 : decode cX7_isSent 8 = .ok (.getfield 7, 3) := by decide +kernel
theorem dX7_isSent_11 : decode cX7_isSent 11 = .ok (.iload_n 1, 1) := by decide +kernel
theorem dX7_isSent_12 : decode cX7_isSent 12 = .ok (.iaload, 1) := by decide +kernel
theorem dX7_isSent_13 : decode cX7_isSent 13 = .ok (.if_icmp .lt 5, 3) := by decide +kernel
theorem dX7_isSent_16 : decode cX7_isSent 16 = .ok (.iconst 0, 1) := by decide +kernel
theorem dX7_isSent_17 : decode cX7_isSent 17 = .ok (.ireturn, 1) := by decide +kernel
theorem dX7_isSent_18 : decode cX7_isSent 18 = .ok (.aload_n 0, 1) := by decide +kernel
theorem dX7_isSent_19 : decode cX7_isSent 19 = .ok (.getfield 14, 3) := by decide +kernel
theorem dX7_isSent_22 : decode cX7_isSent 22 = .ok (.iload_n 1, 1) := by decide +kernel
theorem dX7_isSent_23 : decode cX7_isSent 23 = .ok (.aload_n 0, 1) := by decide +kernel
theorem dX7_isSent_24 : decode cX7_isSent 24 = .ok (.getfield 14, 3) := by decide +kernel
theorem dX7_isSent_27 : decode cX7_isSent 27 = .ok (.iload_n 1, 1) := by decide +kernel
theorem dX7_isSent_28 : decode cX7_isSent 28 = .ok (.aaload, 1) := by decide +kernel
theorem dX7_isSent_29 : decode cX7_isSent 29 = .ok (.iload_n 2, 1) := by decide +kernel
theorem dX7_isSent_30 : decode cX7_isSent 30 = .ok (.invokestatic 67, 3) := by decide +kernel
theorem dX7_isSent_33 : decode cX7_isSent 33 = .ok (.aastore, 1) := by decide +kernel
theorem dX7_isSent_34 : decode cX7_isSent 34 = .ok (.aload_n 0, 1) := by decide +kernel
theorem dX7_isSent_35 : decode cX7_isSent 35 = .ok (.iconst 2, 1) := by decide +kernel
theorem dX7_isSent_36 : decode cX7_isSent 36 = .ok (.iload_n 1, 1) := by decide +kernel
theorem dX7_isSent_37 : decode cX7_isSent 37 = .ok (.invokevirtual 78, 3) := by decide +kernel
theorem dX7_isSent_40 : decode cX7_isSent 40 = .ok (.iconst 1, 1) := by decide +kernel
theorem dX7_isSent_41 : decode cX7_isSent 41 = .ok (.ireturn, 1) := by decide +kernel
theorem dX7_go_0 : decode cX7_go 0 = .ok (.aload_n 0, 1) := by decide +kernel
theorem dX7_go_1 : decode cX7_go 1 = .ok (.getfield 20, 3) := by decide +kernel
theorem dX7_go_4 : decode cX7_go 4 = .ok (.iload_n 1, 1) := by decide +kernel
theorem dX7_go_5 : decode cX7_go 5 = .ok (.aaload, 1) := by decide +kernel
theorem dX7_go_6 : decode cX7_go 6 = .ok (.astore_n 2, 1) := by decide +kernel
theorem dX7_go_7 : decode cX7_go 7 = .ok (.aload_n 2, 1) := by decide +kernel
theorem dX7_go_8 : decode cX7_go 8 = .ok (.dup, 1) := by decide +kernel
theorem dX7_go_9 : decode cX7_go 9 = .ok (.getfield 64, 3) := by decide +kernel
theorem dX7_go_12 : decode cX7_go 12 = .ok (.iconst 1, 1) := by decide +kernel
theorem dX7_go_13 : decode cX7_go 13 = .ok (.iadd, 1) := by decide +kernel
theorem dX7_go_14 : decode cX7_go 14 = .ok (.putfield 64, 3) := by decide +kernel
theorem dX7_go_17 : decode cX7_go 17 = .ok (.iconst 0, 1) := by decide +kernel
theorem dX7_go_18 : decode cX7_go 18 = .ok (.istore_n 3, 1) := by decide +kernel
theorem dX7_go_19 : decode cX7_go 19 = .ok (.iload_n 3, 1) := by decide +kernel
theorem dX7_go_20 : decode cX7_go 20 = .ok (.iconst 4, 1) := by decide +kernel
theorem dX7_go_21 : decode cX7_go 21 = .ok (.if_icmp .ge 337, 3) := by decide +kernel
theorem dX7_go_24 : decode cX7_go 24 = .ok (.aload_n 2, 1) := by decide +kernel
theorem dX7_go_25 : decode cX7_go 25 = .ok (.getfield 49, 3) := by decide +kernel
theorem dX7_go_28 : decode cX7_go 28 = .ok (.aload_n 2, 1) := by decide +kernel
theorem dX7_go_29 : decode cX7_go 29 = .ok (.getfield 43, 3) := by decide +kernel
theorem dX7_go_32 : decode cX7_go 32 = .ok (.arraylength, 1) := by decide +kernel
theorem dX7_go_33 : decode cX7_go 33 = .ok (.if_icmp .ge 325, 3) := by decide +kernel
theorem dX7_go_36 : decode cX7_go 36 = .ok (.aload_n 2, 1) := by decide +kernel
theorem dX7_go_37 : decode cX7_go 37 = .ok (.getfield 49, 3) := by decide +kernel
theorem dX7_go_40 : decode cX7_go 40 = .ok (.istore 4, 2) := by decide +kernel
theorem dX7_go_42 : decode cX7_go 42 = .ok (.aload_n 2, 1) := by decide +kernel
theorem dX7_go_43 : decode cX7_go 43 = .ok (.getfield 43, 3) := by decide +kernel
theorem dX7_go_46 : decode cX7_go 46 = .ok (.iload 4, 2) := by decide +kernel
theorem dX7_go_48 : decode cX7_go 48 = .ok (.aaload, 1) := by decide +kernel
theorem dX7_go_49 : decode cX7_go 49 = .ok (.astore 5, 2) := by decide +kernel
theorem dX7_go_51 : decode cX7_go 51 = .ok (.aload 5, 2) := by decide +kernel
theorem dX7_go_53 : decode cX7_go 53 = .ok (.iconst 0, 1) := by decide +kernel
theorem dX7_go_54 : decode cX7_go 54 = .ok (.iaload, 1) := by decide +kernel
theorem dX7_go_55 : decode cX7_go 55 = .ok (.ifCond .eq 12, 3) := by decide +kernel
theorem dX7_go_58 : decode cX7_go 58 = .ok (.aload 5, 2) := by decide +kernel
theorem dX7_go_60 : decode cX7_go 60 = .ok (.iconst 0, 1) := by decide +kernel
theorem dX7_go_61 : decode cX7_go 61 = .ok (.iaload, 1) := by decide +kernel
theorem dX7_go_62 : decode cX7_go 62 = .ok (.bipush 6, 2) := by decide +kernel
theorem dX7_go_64 : decode cX7_go 64 = .ok (.if_icmp .ne 55, 3) := by decide +kernel
theorem dX7_go_67 : decode cX7_go 67 = .ok (.aload_n 2, 1) := by decide +kernel
theorem dX7_go_68 : decode cX7_go 68 = .ok (.dup, 1) := by decide +kernel
theorem dX7_go_69 : decode cX7_go 69 = .ok (.getfield 49, 3) := by decide +kernel
theorem dX7_go_72 : decode cX7_go 72 = .ok (.iconst 1, 1) := by decide +kernel
theorem dX7_go_73 : decode cX7_go 73 = .ok (.iadd, 1) := by decide +kernel
theorem dX7_go_74 : decode cX7_go 74 = .ok (.putfield 49, 3) := by decide +kernel
theorem dX7_go_77 : decode cX7_go 77 = .ok (.aload_n 0, 1) := by decide +kernel
theorem dX7_go_78 : decode cX7_go 78 = .ok (.aload 5, 2) := by decide +kernel
theorem dX7_go_80 : decode cX7_go 80 = .ok (.iconst 1, 1) := by decide +kernel
theorem dX7_go_81 : decode cX7_go 81 = .ok (.iaload, 1) := by decide +kernel
theorem dX7_go_82 : decode cX7_go 82 = .ok (.aload 5, 2) := by decide +kernel
theorem dX7_go_84 : decode cX7_go 84 = .ok (.iconst 0, 1) := by decide +kernel
theorem dX7_go_85 : decode cX7_go 85 = .ok (.iaload, 1) := by decide +kernel
theorem dX7_go_86 : decode cX7_go 86 = .ok (.ifCond .ne 10, 3) := by decide +kernel
theorem dX7_go_89 : decode cX7_go 89 = .ok (.aload 5, 2) := by decide +kernel
theorem dX7_go_91 : decode cX7_go 91 = .ok (.iconst 2, 1) := by decide +kernel
theorem dX7_go_92 : decode cX7_go 92 = .ok (.iaload, 1) := by decide +kernel
theorem dX7_go_93 : decode cX7_go 93 = .ok (.goto 7, 3) := by decide +kernel
theorem dX7_go_96 : decode cX7_go 96 = .ok (.aload_n 2, 1) := by decide +kernel
theorem dX7_go_97 : decode cX7_go 97 = .ok (.getfield 52, 3) := by decide +kernel
theorem dX7_go_100 : decode cX7_go 100 = .ok (.invokevirtual 82, 3) := by decide +kernel
theorem dX7_go_103 : decode cX7_go 103 = .ok (.ifCond .ne 201, 3) := by decide +kernel
theorem dX7_go_106 : decode cX7_go 106 = .ok (.aload_n 2, 1) := by decide +kernel
theorem dX7_go_107 : decode cX7_go 107 = .ok (.iload 4, 2) := by decide +kernel
theorem dX7_go_109 : decode cX7_go 109 = .ok (.putfield 49, 3) := by decide +kernel
theorem dX7_go_112 : decode cX7_go 112 = .ok (.aload_n 0, 1) := by decide +kernel
theorem dX7_go_113 : decode cX7_go 113 = .ok (.iload_n 1, 1) := by decide +kernel
theorem dX7_go_114 : decode cX7_go 114 = .ok (.iconst 1, 1) := by decide +kernel
theorem dX7_go_115 : decode cX7_go 115 = .ok (.invokevirtual 86, 3) := by decide +kernel
theorem dX7_go_118 : decode cX7_go 118 = .ok (.return_, 1) := by decide +kernel
theorem dX7_go_119 : decode cX7_go 119 = .ok (.aload 5, 2) := by decide +kernel
theorem dX7_go_121 : decode cX7_go 121 = .ok (.iconst 0, 1) := by decide +kernel
theorem dX7_go_122 : decode cX7_go 122 = .ok (.iaload, 1) := by decide +kernel
theorem dX7_go_123 : decode cX7_go 123 = .ok (.iconst 1, 1) := by decide +kernel
theorem dX7_go_124 : decode cX7_go 124 = .ok (.if_icmp .ne 87, 3) := by decide +kernel
theorem dX7_go_127 : decode cX7_go 127 = .ok (.aload_n 0, 1) := by decide +kernel
theorem dX7_go_128 : decode cX7_go 128 = .ok (.getfield 14, 3) := by decide +kernel
theorem dX7_go_131 : decode cX7_go 131 = .ok (.aload 5, 2) := by decide +kernel
theorem dX7_go_133 : decode cX7_go 133 = .ok (.iconst 1, 1) := by decide +kernel
theorem dX7_go_134 : decode cX7_go 134 = .ok (.iaload, 1) := by decide +kernel
theorem dX7_go_135 : decode cX7_go 135 = .ok (.aaload, 1) := by decide +kernel
theorem dX7_go_136 : decode cX7_go 136 = .ok (.arraylength, 1) := by decide +kernel
theorem dX7_go_137 : decode cX7_go 137 = .ok (.ifCond .ne 10, 3) := by decide +kernel
theorem dX7_go_140 : decode cX7_go 140 = .ok (.aload_n 0, 1) := by decide +kernel
theorem dX7_go_141 : decode cX7_go 141 = .ok (.iload_n 1, 1) := by decide +kernel
theorem dX7_go_142 : decode cX7_go 142 = .ok (.iconst 2, 1) := by decide +kernel
theorem dX7_go_143 : decode cX7_go 143 = .ok (.invokevirtual 86, 3) := by decide +kernel
theorem dX7_go_146 : decode cX7_go 146 = .ok (.return_, 1) := by decide +kernel
theorem dX7_go_147 : decode cX7_go 147 = .ok (.aload_n 2, 1) := by decide +kernel
theorem dX7_go_148 : decode cX7_go 148 = .ok (.dup, 1) := by decide +kernel
theorem dX7_go_149 : decode cX7_go 149 = .ok (.getfield 52, 3) := by decide +kernel
theorem dX7_go_152 : decode cX7_go 152 = .ok (.aload_n 0, 1) := by decide +kernel
theorem dX7_go_153 : decode cX7_go 153 = .ok (.getfield 14, 3) := by decide +kernel
theorem dX7_go_156 : decode cX7_go 156 = .ok (.aload 5, 2) := by decide +kernel
theorem dX7_go_158 : decode cX7_go 158 = .ok (.iconst 1, 1) := by decide +kernel
theorem dX7_go_159 : decode cX7_go 159 = .ok (.iaload, 1) := by decide +kernel
theorem dX7_go_160 : decode cX7_go 160 = .ok (.aaload, 1) := by decide +kernel
theorem dX7_go_161 : decode cX7_go 161 = .ok (.iconst 0, 1) := by decide +kernel
theorem dX7_go_162 : decode cX7_go 162 = .ok (.iaload, 1) := by decide +kernel
theorem dX7_go_163 : decode cX7_go 163 = .ok (.iadd, 1) := by decide +kernel
theorem dX7_go_164 : decode cX7_go 164 = .ok (.putfield 52, 3) := by decide +kernel
theorem dX7_go_167 : decode cX7_go 167 = .ok (.aload_n 0, 1) := by decide +kernel
theorem dX7_go_168 : decode cX7_go 168 = .ok (.getfield 14, 3) := by decide +kernel
theorem dX7_go_171 : decode cX7_go 171 = .ok (.aload 5, 2) := by decide +kernel
theorem dX7_go_173 : decode cX7_go 173 = .ok (.iconst 1, 1) := by decide +kernel
theorem dX7_go_174 : decode cX7_go 174 = .ok (.iaload, 1) := by decide +kernel
theorem dX7_go_175 : decode cX7_go 175 = .ok (.aload_n 0, 1) := by decide +kernel
theorem dX7_go_176 : decode cX7_go 176 = .ok (.getfield 14, 3) := by decide +kernel
theorem dX7_go_179 : decode cX7_go 179 = .ok (.aload 5, 2) := by decide +kernel
theorem dX7_go_181 : decode cX7_go 181 = .ok (.iconst 1, 1) := by decide +kernel
theorem dX7_go_182 : decode cX7_go 182 = .ok (.iaload, 1) := by decide +kernel
theorem dX7_go_183 : decode cX7_go 183 = .ok (.aaload, 1) := by decide +kernel
theorem dX7_go_184 : decode cX7_go 184 = .ok (.iconst 0, 1) := by decide +kernel
theorem dX7_go_185 : decode cX7_go 185 = .ok (.invokestatic 75, 3) := by decide +kernel
theorem dX7_go_188 : decode cX7_go 188 = .ok (.aastore, 1) := by decide +kernel
theorem dX7_go_189 : decode cX7_go 189 = .ok (.aload_n 2, 1) := by decide +kernel
theorem dX7_go_190 : decode cX7_go 190 = .ok (.dup, 1) := by decide +kernel
theorem dX7_go_191 : decode cX7_go 191 = .ok (.getfield 49, 3) := by decide +kernel
theorem dX7_go_194 : decode cX7_go 194 = .ok (.iconst 1, 1) := by decide +kernel
theorem dX7_go_195 : decode cX7_go 195 = .ok (.iadd, 1) := by decide +kernel
theorem dX7_go_196 : decode cX7_go 196 = .ok (.putfield 49, 3) := by decide +kernel
theorem dX7_go_199 : decode cX7_go 199 = .ok (.aload_n 0, 1) := by decide +kernel
theorem dX7_go_200 : decode cX7_go 200 = .ok (.iconst 1, 1) := by decide +kernel
theorem dX7_go_201 : decode cX7_go 201 = .ok (.aload 5, 2) := by decide +kernel
theorem dX7_go_203 : decode cX7_go 203 = .ok (.iconst 1, 1) := by decide +kernel
theorem dX7_go_204 : decode cX7_go 204 = .ok (.iaload, 1) := by decide +kernel
theorem dX7_go_205 : decode cX7_go 205 = .ok (.invokevirtual 78, 3) := by decide +kernel
theorem dX7_go_208 : decode cX7_go 208 = .ok (.goto 96, 3) := by decide +kernel
theorem dX7_go_211 : decode cX7_go 211 = .ok (.aload 5, 2) := by decide +kernel
theorem dX7_go_213 : decode cX7_go 213 = .ok (.iconst 0, 1) := by decide +kernel
theorem dX7_go_214 : decode cX7_go 214 = .ok (.iaload, 1) := by decide +kernel
theorem dX7_go_215 : decode cX7_go 215 = .ok (.iconst 4, 1) := by decide +kernel
theorem dX7_go_216 : decode cX7_go 216 = .ok (.if_icmp .ne 26, 3) := by decide +kernel
theorem dX7_go_219 : decode cX7_go 219 = .ok (.aload_n 0, 1) := by decide +kernel
theorem dX7_go_220 : decode cX7_go 220 = .ok (.getfield 20, 3) := by decide +kernel
theorem dX7_go_223 : decode cX7_go 223 = .ok (.aload 5, 2) := by decide +kernel
theorem dX7_go_225 : decode cX7_go 225 = .ok (.iconst 1, 1) := by decide +kernel
theorem dX7_go_226 : decode cX7_go 226 = .ok (.iaload, 1) := by decide +kernel
theorem dX7_go_227 : decode cX7_go 227 = .ok (.aaload, 1) := by decide +kernel
theorem dX7_go_228 : decode cX7_go 228 = .ok (.getfield 55, 3) := by decide +kernel
theorem dX7_go_231 : decode cX7_go 231 = .ok (.iconst 5, 1) := by decide +kernel
theorem dX7_go_232 : decode cX7_go 232 = .ok (.if_icmp .eq 10, 3) := by decide +kernel
theorem dX7_go_235 : decode cX7_go 235 = .ok (.aload_n 0, 1) := by decide +kernel
theorem dX7_go_236 : decode cX7_go 236 = .ok (.iload_n 1, 1) := by decide +kernel
theorem dX7_go_237 : decode cX7_go 237 = .ok (.iconst 4, 1) := by decide +kernel
theorem dX7_go_238 : decode cX7_go 238 = .ok (.invokevirtual 86, 3) := by decide +kernel
theorem dX7_go_241 : decode cX7_go 241 = .ok (.return_, 1) := by decide +kernel
theorem dX7_go_242 : decode cX7_go 242 = .ok (.aload 5, 2) := by decide +kernel
theorem dX7_go_244 : decode cX7_go 244 = .ok (.iconst 0, 1) := by decide +kernel
theorem dX7_go_245 : decode cX7_go 245 = .ok (.iaload, 1) := by decide +kernel
theorem dX7_go_246 : decode cX7_go 246 = .ok (.iconst 5, 1) := by decide +kernel
theorem dX7_go_247 : decode cX7_go 247 = .ok (.if_icmp .ne 39, 3) := by decide +kernel
theorem dX7_go_250 : decode cX7_go 250 = .ok (.aload_n 2, 1) := by decide +kernel
theorem dX7_go_251 : decode cX7_go 251 = .ok (.getfield 46, 3) := by decide +kernel
theorem dX7_go_254 : decode cX7_go 254 = .ok (.iload 4, 2) := by decide +kernel
theorem dX7_go_256 : decode cX7_go 256 = .ok (.iaload, 1) := by decide +kernel
theorem dX7_go_257 : decode cX7_go 257 = .ok (.aload 5, 2) := by decide +kernel
theorem dX7_go_259 : decode cX7_go 259 = .ok (.iconst 2, 1) := by decide +kernel
theorem dX7_go_260 : decode cX7_go 260 = .ok (.iaload, 1) := by decide +kernel
theorem dX7_go_261 : decode cX7_go 261 = .ok (.if_icmp .ge 25, 3) := by decide +kernel
theorem dX7_go_264 : decode cX7_go 264 = .ok (.aload_n 2, 1) := by decide +kernel
theorem dX7_go_265 : decode cX7_go 265 = .ok (.getfield 46, 3) := by decide +kernel
theorem dX7_go_268 : decode cX7_go 268 = .ok (.iload 4, 2) := by decide +kernel
theorem dX7_go_270 : decode cX7_go 270 = .ok (.dup2, 1) := by decide +kernel
theorem dX7_go_271 : decode cX7_go 271 = .ok (.iaload, 1) := by decide +kernel
theorem dX7_go_272 : decode cX7_go 272 = .ok (.iconst 1, 1) := by decide +kernel
theorem dX7_go_273 : decode cX7_go 273 = .ok (.iadd, 1) := by decide +kernel
theorem dX7_go_274 : decode cX7_go 274 = .ok (.iastore, 1) := by decide +kernel
theorem dX7_go_275 : decode cX7_go 275 = .ok (.aload_n 2, 1) := by decide +kernel
theorem dX7_go_276 : decode cX7_go 276 = .ok (.aload 5, 2) := by decide +kernel
theorem dX7_go_278 : decode cX7_go 278 = .ok (.iconst 1, 1) := by decide +kernel
theorem dX7_go_279 : decode cX7_go 279 = .ok (.iaload, 1) := by decide +kernel
theorem dX7_go_280 : decode cX7_go 280 = .ok (.putfield 49, 3) := by decide +kernel
theorem dX7_go_283 : decode cX7_go 283 = .ok (.goto 21, 3) := by decide +kernel
theorem dX7_go_286 : decode cX7_go 286 = .ok (.aload_n 2, 1) := by decide +kernel
theorem dX7_go_287 : decode cX7_go 287 = .ok (.getfield 46, 3) := by decide +kernel
theorem dX7_go_290 : decode cX7_go 290 = .ok (.iload 4, 2) := by decide +kernel
theorem dX7_go_292 : decode cX7_go 292 = .ok (.iconst 0, 1) := by decide +kernel
theorem dX7_go_293 : decode cX7_go 293 = .ok (.iastore, 1) := by decide +kernel
theorem dX7_go_294 : decode cX7_go 294 = .ok (.aload_n 2, 1) := by decide +kernel
theorem dX7_go_295 : decode cX7_go 295 = .ok (.dup, 1) := by decide +kernel
theorem dX7_go_296 : decode cX7_go 296 = .ok (.getfield 49, 3) := by decide +kernel
theorem dX7_go_299 : decode cX7_go 299 = .ok (.iconst 1, 1) := by decide +kernel
theorem dX7_go_300 : decode cX7_go 300 = .ok (.iadd, 1) := by decide +kernel
theorem dX7_go_301 : decode cX7_go 301 = .ok (.putfield 49, 3) := by decide +kernel
theorem dX7_go_304 : decode cX7_go 304 = .ok (.iinc 3 1, 3) := by decide +kernel
theorem dX7_go_307 : decode cX7_go 307 = .ok (.aload_n 2, 1) := by decide +kernel
theorem dX7_go_308 : decode cX7_go 308 = .ok (.dup, 1) := by decide +kernel
theorem dX7_go_309 : decode cX7_go 309 = .ok (.getfield 61, 3) := by decide +kernel
theorem dX7_go_312 : decode cX7_go 312 = .ok (.iconst 1, 1) := by decide +kernel
theorem dX7_go_313 : decode cX7_go 313 = .ok (.iadd, 1) := by decide +kernel
theorem dX7_go_314 : decode cX7_go 314 = .ok (.putfield 61, 3) := by decide +kernel
theorem dX7_go_317 : decode cX7_go 317 = .ok (.aload 5, 2) := by decide +kernel
theorem dX7_go_319 : decode cX7_go 319 = .ok (.iconst 0, 1) := by decide +kernel
theorem dX7_go_320 : decode cX7_go 320 = .ok (.iaload, 1) := by decide +kernel
theorem dX7_go_321 : decode cX7_go 321 = .ok (.iconst 2, 1) := by decide +kernel
theorem dX7_go_322 : decode cX7_go 322 = .ok (.if_icmp .ne 22, 3) := by decide +kernel
theorem dX7_go_325 : decode cX7_go 325 = .ok (.aload_n 2, 1) := by decide +kernel
theorem dX7_go_326 : decode cX7_go 326 = .ok (.iconst 3, 1) := by decide +kernel
theorem dX7_go_327 : decode cX7_go 327 = .ok (.putfield 55, 3) := by decide +kernel
theorem dX7_go_330 : decode cX7_go 330 = .ok (.aload_n 2, 1) := by decide +kernel
theorem dX7_go_331 : decode cX7_go 331 = .ok (.aload_n 0, 1) := by decide +kernel
theorem dX7_go_332 : decode cX7_go 332 = .ok (.getfield 31, 3) := by decide +kernel
theorem dX7_go_335 : decode cX7_go 335 = .ok (.aload 5, 2) := by decide +kernel
theorem dX7_go_337 : decode cX7_go 337 = .ok (.iconst 1, 1) := by decide +kernel
theorem dX7_go_338 : decode cX7_go 338 = .ok (.iaload, 1) := by decide +kernel
theorem dX7_go_339 : decode cX7_go 339 = .ok (.iadd, 1) := by decide +kernel
theorem dX7_go_340 : decode cX7_go 340 = .ok (.putfield 58, 3) := by decide +kernel
theorem dX7_go_343 : decode cX7_go 343 = .ok (.return_, 1) := by decide +kernel
theorem dX7_go_344 : decode cX7_go 344 = .ok (.aload 5, 2) := by decide +kernel
theorem dX7_go_346 : decode cX7_go 346 = .ok (.iconst 0, 1) := by decide +kernel
theorem dX7_go_347 : decode cX7_go 347 = .ok (.iaload, 1) := by decide +kernel
theorem dX7_go_348 : decode cX7_go 348 = .ok (.iconst 3, 1) := by decide +kernel
theorem dX7_go_349 : decode cX7_go 349 = .ok (.if_icmp .ne 6, 3) := by decide +kernel
theorem dX7_go_352 : decode cX7_go 352 = .ok (.goto 6, 3) := by decide +kernel
theorem dX7_go_355 : decode cX7_go 355 = .ok (.goto (-336), 3) := by decide +kernel
theorem dX7_go_358 : decode cX7_go 358 = .ok (.aload_n 2, 1) := by decide +kernel
theorem dX7_go_359 : decode cX7_go 359 = .ok (.getfield 49, 3) := by decide +kernel
theorem dX7_go_362 : decode cX7_go 362 = .ok (.aload_n 2, 1) := by decide +kernel
theorem dX7_go_363 : decode cX7_go 363 = .ok (.getfield 43, 3) := by decide +kernel
theorem dX7_go_366 : decode cX7_go 366 = .ok (.arraylength, 1) := by decide +kernel
theorem dX7_go_367 : decode cX7_go 367 = .ok (.if_icmp .ge 16, 3) := by decide +kernel
theorem dX7_go_370 : decode cX7_go 370 = .ok (.aload_n 0, 1) := by decide +kernel
theorem dX7_go_371 : decode cX7_go 371 = .ok (.aload_n 0, 1) := by decide +kernel
theorem dX7_go_372 : decode cX7_go 372 = .ok (.getfield 24, 3) := by decide +kernel
theorem dX7_go_375 : decode cX7_go 375 = .ok (.iload_n 1, 1) := by decide +kernel
theorem dX7_go_376 : decode cX7_go 376 = .ok (.invokestatic 67, 3) := by decide +kernel
theorem dX7_go_379 : decode cX7_go 379 = .ok (.putfield 24, 3) := by decide +kernel
theorem dX7_go_382 : decode cX7_go 382 = .ok (.return_, 1) := by decide +kernel
theorem dX7_go_383 : decode cX7_go 383 = .ok (.aload_n 2, 1) := by decide +kernel
theorem dX7_go_384 : decode cX7_go 384 = .ok (.iconst 5, 1) := by decide +kernel
theorem dX7_go_385 : decode cX7_go 385 = .ok (.putfield 55, 3) := by decide +kernel
theorem dX7_go_388 : decode cX7_go 388 = .ok (.iconst 0, 1) := by decide +kernel
theorem dX7_go_389 : decode cX7_go 389 = .ok (.istore 4, 2) := by decide +kernel
theorem dX7_go_391 : decode cX7_go 391 = .ok (.iload 4, 2) := by decide +kernel
theorem dX7_go_393 : decode cX7_go 393 = .ok (.aload_n 0, 1) := by decide +kernel
theorem dX7_go_394 : decode cX7_go 394 = .ok (.getfield 20, 3) := by decide +kernel
theorem dX7_go_397 : decode cX7_go 397 = .ok (.arraylength, 1) := by decide +kernel
theorem dX7_go_398 : decode cX7_go 398 = .ok (.if_icmp .ge 93, 3) := by decide +kernel
theorem dX7_go_401 : decode cX7_go 401 = .ok (.aload_n 0, 1) := by decide +kernel
theorem dX7_go_402 : decode cX7_go 402 = .ok (.getfield 20, 3) := by decide +kernel
theorem dX7_go_405 : decode cX7_go 405 = .ok (.iload 4, 2) := by decide +kernel
theorem dX7_go_407 : decode cX7_go 407 = .ok (.aaload, 1) := by decide +kernel
theorem dX7_go_408 : decode cX7_go 408 = .ok (.getfield 55, 3) := by decide +kernel
theorem dX7_go_411 : decode cX7_go 411 = .ok (.iconst 4, 1) := by decide +kernel
theorem dX7_go_412 : decode cX7_go 412 = .ok (.if_icmp .ne 73, 3) := by decide +kernel
theorem dX7_go_415 : decode cX7_go 415 = .ok (.aload_n 0, 1) := by decide +kernel
theorem dX7_go_416 : decode cX7_go 416 = .ok (.getfield 20, 3) := by decide +kernel
theorem dX7_go_419 : decode cX7_go 419 = .ok (.iload 4, 2) := by decide +kernel
theorem dX7_go_421 : decode cX7_go 421 = .ok (.aaload, 1) := by decide +kernel
theorem dX7_go_422 : decode cX7_go 422 = .ok (.getfield 43, 3) := by decide +kernel
theorem dX7_go_425 : decode cX7_go 425 = .ok (.aload_n 0, 1) := by decide +kernel
theorem dX7_go_426 : decode cX7_go 426 = .ok (.getfield 20, 3) := by decide +kernel
theorem dX7_go_429 : decode cX7_go 429 = .ok (.iload 4, 2) := by decide +kernel
theorem dX7_go_431 : decode cX7_go 431 = .ok (.aaload, 1) := by decide +kernel
theorem dX7_go_432 : decode cX7_go 432 = .ok (.getfield 49, 3) := by decide +kernel
theorem dX7_go_435 : decode cX7_go 435 = .ok (.aaload, 1) := by decide +kernel
theorem dX7_go_436 : decode cX7_go 436 = .ok (.iconst 1, 1) := by decide +kernel
theorem dX7_go_437 : decode cX7_go 437 = .ok (.iaload, 1) := by decide +kernel
theorem dX7_go_438 : decode cX7_go 438 = .ok (.iload_n 1, 1) := by decide +kernel
theorem dX7_go_439 : decode cX7_go 439 = .ok (.if_icmp .eq 6, 3) := by decide +kernel
theorem dX7_go_442 : decode cX7_go 442 = .ok (.goto 43, 3) := by decide +kernel
theorem dX7_go_445 : decode cX7_go 445 = .ok (.iconst 0, 1) := by decide +kernel
theorem dX7_go_446 : decode cX7_go 446 = .ok (.istore 5, 2) := by decide +kernel
theorem dX7_go_448 : decode cX7_go 448 = .ok (.aload_n 0, 1) := by decide +kernel
theorem dX7_go_449 : decode cX7_go 449 = .ok (.getfield 27, 3) := by decide +kernel
theorem dX7_go_452 : decode cX7_go 452 = .ok (.iload 5, 2) := by decide +kernel
theorem dX7_go_454 : decode cX7_go 454 = .ok (.iaload, 1) := by decide +kernel
theorem dX7_go_455 : decode cX7_go 455 = .ok (.iload 4, 2) := by decide +kernel
theorem dX7_go_457 : decode cX7_go 457 = .ok (.if_icmp .eq 9, 3) := by decide +kernel
theorem dX7_go_460 : decode cX7_go 460 = .ok (.iinc 5 1, 3) := by decide +kernel
theorem dX7_go_463 : decode cX7_go 463 = .ok (.goto (-15), 3) := by decide +kernel
theorem dX7_go_466 : decode cX7_go 466 = .ok (.aload_n 0, 1) := by decide +kernel
theorem dX7_go_467 : decode cX7_go 467 = .ok (.aload_n 0, 1) := by decide +kernel
theorem dX7_go_468 : decode cX7_go 468 = .ok (.getfield 27, 3) := by decide +kernel
theorem dX7_go_471 : decode cX7_go 471 = .ok (.iload 5, 2) := by decide +kernel
theorem dX7_go_473 : decode cX7_go 473 = .ok (.invokestatic 75, 3) := by decide +kernel
theorem dX7_go_476 : decode cX7_go 476 = .ok (.putfield 27, 3) := by decide +kernel
theorem dX7_go_479 : decode cX7_go 479 = .ok (.aload_n 0, 1) := by decide +kernel
theorem dX7_go_480 : decode cX7_go 480 = .ok (.iload 4, 2) := by decide +kernel
theorem dX7_go_482 : decode cX7_go 482 = .ok (.invokevirtual 71, 3) := by decide +kernel
theorem dX7_go_485 : decode cX7_go 485 = .ok (.iinc 4 1, 3) := by decide +kernel
theorem dX7_go_488 : decode cX7_go 488 = .ok (.goto (-97), 3) := by decide +kernel
theorem dX7_go_491 : decode cX7_go 491 = .ok (.return_, 1) := by decide +kernel
theorem dX7_pass_0 : decode cX7_pass 0 = .ok (.iconst 0, 1) := by decide +kernel
theorem dX7_pass_1 : decode cX7_pass 1 = .ok (.istore_n 1, 1) := by decide +kernel
theorem dX7_pass_2 : decode cX7_pass 2 = .ok (.iload_n 1, 1) := by decide +kernel
theorem dX7_pass_3 : decode cX7_pass 3 = .ok (.aload_n 0, 1) := by decide +kernel
theorem dX7_pass_4 : decode cX7_pass 4 = .ok (.getfield 20, 3) := by decide +kernel
theorem dX7_pass_7 : decode cX7_pass 7 = .ok (.arraylength, 1) := by decide +kernel
theorem dX7_pass_8 : decode cX7_pass 8 = .ok (.if_icmp .ge 43, 3) := by decide +kernel
theorem dX7_pass_11 : decode cX7_pass 11 = .ok (.aload_n 0, 1) := by decide +kernel
theorem dX7_pass_12 : decode cX7_pass 12 = .ok (.getfield 20, 3) := by decide +kernel
theorem dX7_pass_15 : decode cX7_pass 15 = .ok (.iload_n 1, 1) := by decide +kernel
theorem dX7_pass_16 : decode cX7_pass 16 = .ok (.aaload, 1) := by decide +kernel
theorem dX7_pass_17 : decode cX7_pass 17 = .ok (.getfield 55, 3) := by decide +kernel
theorem dX7_pass_20 : decode cX7_pass 20 = .ok (.iconst 3, 1) := by decide +kernel
theorem dX7_pass_21 : decode cX7_pass 21 = .ok (.if_icmp .ne 24, 3) := by decide +kernel
theorem dX7_pass_24 : decode cX7_pass 24 = .ok (.aload_n 0, 1) := by decide +kernel
theorem dX7_pass_25 : decode cX7_pass 25 = .ok (.getfield 20, 3) := by decide +kernel
theorem dX7_pass_28 : decode cX7_pass 28 = .ok (.iload_n 1, 1) := by decide +kernel
theorem dX7_pass_29 : decode cX7_pass 29 = .ok (.aaload, 1) := by decide +kernel
theorem dX7_pass_30 : decode cX7_pass 30 = .ok (.getfield 58, 3) := by decide +kernel
theorem dX7_pass_33 : decode cX7_pass 33 = .ok (.aload_n 0, 1) := by decide +kernel
theorem dX7_pass_34 : decode cX7_pass 34 = .ok (.getfield 31, 3) := by decide +kernel
theorem dX7_pass_37 : decode cX7_pass 37 = .ok (.if_icmp .ne 8, 3) := by decide +kernel
theorem dX7_pass_40 : decode cX7_pass 40 = .ok (.aload_n 0, 1) := by decide +kernel
theorem dX7_pass_41 : decode cX7_pass 41 = .ok (.iload_n 1, 1) := by decide +kernel
theorem dX7_pass_42 : decode cX7_pass 42 = .ok (.invokevirtual 71, 3) := by decide +kernel
theorem dX7_pass_45 : decode cX7_pass 45 = .ok (.iinc 1 1, 3) := by decide +kernel
theorem dX7_pass_48 : decode cX7_pass 48 = .ok (.goto (-46), 3) := by decide +kernel
theorem dX7_pass_51 : decode cX7_pass 51 = .ok (.aload_n 0, 1) := by decide +kernel
theorem dX7_pass_52 : decode cX7_pass 52 = .ok (.getfield 24, 3) := by decide +kernel
theorem dX7_pass_55 : decode cX7_pass 55 = .ok (.arraylength, 1) := by decide +kernel
theorem dX7_pass_56 : decode cX7_pass 56 = .ok (.ifCond .ne 7, 3) := by decide +kernel
theorem dX7_pass_59 : decode cX7_pass 59 = .ok (.iconst 1, 1) := by decide +kernel
theorem dX7_pass_60 : decode cX7_pass 60 = .ok (.goto 4, 3) := by decide +kernel
theorem dX7_pass_63 : decode cX7_pass 63 = .ok (.iconst 0, 1) := by decide +kernel
theorem dX7_pass_64 : decode cX7_pass 64 = .ok (.istore_n 1, 1) := by decide +kernel
theorem dX7_pass_65 : decode cX7_pass 65 = .ok (.iload_n 1, 1) := by decide +kernel
theorem dX7_pass_66 : decode cX7_pass 66 = .ok (.ifCond .eq 16, 3) := by decide +kernel
theorem dX7_pass_69 : decode cX7_pass 69 = .ok (.aload_n 0, 1) := by decide +kernel
theorem dX7_pass_70 : decode cX7_pass 70 = .ok (.dup, 1) := by decide +kernel
theorem dX7_pass_71 : decode cX7_pass 71 = .ok (.getfield 35, 3) := by decide +kernel
theorem dX7_pass_74 : decode cX7_pass 74 = .ok (.iconst 1, 1) := by decide +kernel
theorem dX7_pass_75 : decode cX7_pass 75 = .ok (.iadd, 1) := by decide +kernel
theorem dX7_pass_76 : decode cX7_pass 76 = .ok (.putfield 35, 3) := by decide +kernel
theorem dX7_pass_79 : decode cX7_pass 79 = .ok (.goto 27, 3) := by decide +kernel
theorem dX7_pass_82 : decode cX7_pass 82 = .ok (.aload_n 0, 1) := by decide +kernel
theorem dX7_pass_83 : decode cX7_pass 83 = .ok (.getfield 24, 3) := by decide +kernel
theorem dX7_pass_86 : decode cX7_pass 86 = .ok (.iconst 0, 1) := by decide +kernel
theorem dX7_pass_87 : decode cX7_pass 87 = .ok (.iaload, 1) := by decide +kernel
theorem dX7_pass_88 : decode cX7_pass 88 = .ok (.istore_n 2, 1) := by decide +kernel
theorem dX7_pass_89 : decode cX7_pass 89 = .ok (.aload_n 0, 1) := by decide +kernel
theorem dX7_pass_90 : decode cX7_pass 90 = .ok (.aload_n 0, 1) := by decide +kernel
theorem dX7_pass_91 : decode cX7_pass 91 = .ok (.getfield 24, 3) := by decide +kernel
theorem dX7_pass_94 : decode cX7_pass 94 = .ok (.iconst 0, 1) := by decide +kernel
theorem dX7_pass_95 : decode cX7_pass 95 = .ok (.invokestatic 75, 3) := by decide +kernel
theorem dX7_pass_98 : decode cX7_pass 98 = .ok (.putfield 24, 3) := by decide +kernel
theorem dX7_pass_101 : decode cX7_pass 101 = .ok (.aload_n 0, 1) := by decide +kernel
theorem dX7_pass_102 : decode cX7_pass 102 = .ok (.iload_n 2, 1) := by decide +kernel
theorem dX7_pass_103 : decode cX7_pass 103 = .ok (.invokevirtual 89, 3) := by decide +kernel
theorem dX7_pass_106 : decode cX7_pass 106 = .ok (.aload_n 0, 1) := by decide +kernel
theorem dX7_pass_107 : decode cX7_pass 107 = .ok (.dup, 1) := by decide +kernel
theorem dX7_pass_108 : decode cX7_pass 108 = .ok (.getfield 31, 3) := by decide +kernel
theorem dX7_pass_111 : decode cX7_pass 111 = .ok (.iconst 1, 1) := by decide +kernel
theorem dX7_pass_112 : decode cX7_pass 112 = .ok (.iadd, 1) := by decide +kernel
theorem dX7_pass_113 : decode cX7_pass 113 = .ok (.putfield 31, 3) := by decide +kernel
theorem dX7_pass_116 : decode cX7_pass 116 = .ok (.iload_n 1, 1) := by decide +kernel
theorem dX7_pass_117 : decode cX7_pass 117 = .ok (.ireturn, 1) := by decide +kernel
theorem dX7_pass__0 : decode cX7_pass_ 0 = .ok (.iconst 0, 1) := by decide +kernel
theorem dX7_pass__1 : decode cX7_pass_ 1 = .ok (.istore_n 2, 1) := by decide +kernel
theorem dX7_pass__2 : decode cX7_pass_ 2 = .ok (.iconst 0, 1) := by decide +kernel
theorem dX7_pass__3 : decode cX7_pass_ 3 = .ok (.istore_n 3, 1) := by decide +kernel
theorem dX7_pass__4 : decode cX7_pass_ 4 = .ok (.iload_n 3, 1) := by decide +kernel
theorem dX7_pass__5 : decode cX7_pass_ 5 = .ok (.iload_n 1, 1) := by decide +kernel
theorem dX7_pass__6 : decode cX7_pass_ 6 = .ok (.if_icmp .ge 24, 3) := by decide +kernel
theorem dX7_pass__9 : decode cX7_pass_ 9 = .ok (.iload_n 2, 1) := by decide +kernel
theorem dX7_pass__10 : decode cX7_pass_ 10 = .ok (.aload_n 0, 1) := by decide +kernel
theorem dX7_pass__11 : decode cX7_pass_ 11 = .ok (.invokevirtual 92, 3) := by decide +kernel
theorem dX7_pass__14 : decode cX7_pass_ 14 = .ok (.ifCond .eq 7, 3) := by decide +kernel
theorem dX7_pass__17 : decode cX7_pass_ 17 = .ok (.iconst 1, 1) := by decide +kernel
theorem dX7_pass__18 : decode cX7_pass_ 18 = .ok (.goto 4, 3) := by decide +kernel
theorem dX7_pass__21 : decode cX7_pass_ 21 = .ok (.iconst 0, 1) := by decide +kernel
theorem dX7_pass__22 : decode cX7_pass_ 22 = .ok (.iadd, 1) := by decide +kernel
theorem dX7_pass__23 : decode cX7_pass_ 23 = .ok (.istore_n 2, 1) := by decide +kernel
theorem dX7_pass__24 : decode cX7_pass_ 24 = .ok (.iinc 3 1, 3) := by decide +kernel
theorem dX7_pass__27 : decode cX7_pass_ 27 = .ok (.goto (-23), 3) := by decide +kernel
theorem dX7_pass__30 : decode cX7_pass_ 30 = .ok (.iload_n 2, 1) := by decide +kernel
theorem dX7_pass__31 : decode cX7_pass_ 31 = .ok (.ireturn, 1) := by decide +kernel
theorem dX7_done_0 : decode cX7_done 0 = .ok (.iconst 0, 1) := by decide +kernel
theorem dX7_done_1 : decode cX7_done 1 = .ok (.istore_n 1, 1) := by decide +kernel
theorem dX7_done_2 : decode cX7_done 2 = .ok (.aload_n 0, 1) := by decide +kernel
theorem dX7_done_3 : decode cX7_done 3 = .ok (.getfield 20, 3) := by decide +kernel
theorem dX7_done_6 : decode cX7_done 6 = .ok (.astore_n 2, 1) := by decide +kernel
theorem dX7_done_7 : decode cX7_done 7 = .ok (.aload_n 2, 1) := by decide +kernel
theorem dX7_done_8 : decode cX7_done 8 = .ok (.arraylength, 1) := by decide +kernel
theorem dX7_done_9 : decode cX7_done 9 = .ok (.istore_n 3, 1) := by decide +kernel
theorem dX7_done_10 : decode cX7_done 10 = .ok (.iconst 0, 1) := by decide +kernel
theorem dX7_done_11 : decode cX7_done 11 = .ok (.istore 4, 2) := by decide +kernel
theorem dX7_done_13 : decode cX7_done 13 = .ok (.iload 4, 2) := by decide +kernel
theorem dX7_done_15 : decode cX7_done 15 = .ok (.iload_n 3, 1) := by decide +kernel
theorem dX7_done_16 : decode cX7_done 16 = .ok (.if_icmp .ge 32, 3) := by decide +kernel
theorem dX7_done_19 : decode cX7_done 19 = .ok (.aload_n 2, 1) := by decide +kernel
theorem dX7_done_20 : decode cX7_done 20 = .ok (.iload 4, 2) := by decide +kernel
theorem dX7_done_22 : decode cX7_done 22 = .ok (.aaload, 1) := by decide +kernel
theorem dX7_done_23 : decode cX7_done 23 = .ok (.astore 5, 2) := by decide +kernel
theorem dX7_done_25 : decode cX7_done 25 = .ok (.iload_n 1, 1) := by decide +kernel
theorem dX7_done_26 : decode cX7_done 26 = .ok (.aload 5, 2) := by decide +kernel
theorem dX7_done_28 : decode cX7_done 28 = .ok (.getfield 55, 3) := by decide +kernel
theorem dX7_done_31 : decode cX7_done 31 = .ok (.iconst 5, 1) := by decide +kernel
theorem dX7_done_32 : decode cX7_done 32 = .ok (.if_icmp .ne 7, 3) := by decide +kernel
theorem dX7_done_35 : decode cX7_done 35 = .ok (.iconst 1, 1) := by decide +kernel
theorem dX7_done_36 : decode cX7_done 36 = .ok (.goto 4, 3) := by decide +kernel
theorem dX7_done_39 : decode cX7_done 39 = .ok (.iconst 0, 1) := by decide +kernel
theorem dX7_done_40 : decode cX7_done 40 = .ok (.iadd, 1) := by decide +kernel
theorem dX7_done_41 : decode cX7_done 41 = .ok (.istore_n 1, 1) := by decide +kernel
theorem dX7_done_42 : decode cX7_done 42 = .ok (.iinc 4 1, 3) := by decide +kernel
theorem dX7_done_45 : decode cX7_done 45 = .ok (.goto (-32), 3) := by decide +kernel
theorem dX7_done_48 : decode cX7_done 48 = .ok (.iload_n 1, 1) := by decide +kernel
theorem dX7_done_49 : decode cX7_done 49 = .ok (.ireturn, 1) := by decide +kernel
theorem dX7_isStuck_0 : decode cX7_isStuck 0 = .ok (.iconst 0, 1) := by decide +kernel
theorem dX7_isStuck_1 : decode cX7_isStuck 1 = .ok (.istore_n 1, 1) := by decide +kernel
theorem dX7_isStuck_2 : decode cX7_isStuck 2 = .ok (.aload_n 0, 1) := by decide +kernel
theorem dX7_isStuck_3 : decode cX7_isStuck 3 = .ok (.getfield 20, 3) := by decide +kernel
theorem dX7_isStuck_6 : decode cX7_isStuck 6 = .ok (.astore_n 2, 1) := by decide +kernel
theorem dX7_isStuck_7 : decode cX7_isStuck 7 = .ok (.aload_n 2, 1) := by decide +kernel
theorem dX7_isStuck_8 : decode cX7_isStuck 8 = .ok (.arraylength, 1) := by decide +kernel
theorem dX7_isStuck_9 : decode cX7_isStuck 9 = .ok (.istore_n 3, 1) := by decide +kernel
theorem dX7_isStuck_10 : decode cX7_isStuck 10 = .ok (.iconst 0, 1) := by decide +kernel
theorem dX7_isStuck_11 : decode cX7_isStuck 11 = .ok (.istore 4, 2) := by decide +kernel
theorem dX7_isStuck_13 : decode cX7_isStuck 13 = .ok (.iload 4, 2) := by decide +kernel
theorem dX7_isStuck_15 : decode cX7_isStuck 15 = .ok (.iload_n 3, 1) := by decide +kernel
theorem dX7_isStuck_16 : decode cX7_isStuck 16 = .ok (.if_icmp .ge 51, 3) := by decide +kernel
theorem dX7_isStuck_19 : decode cX7_isStuck 19 = .ok (.aload_n 2, 1) := by decide +kernel
theorem dX7_isStuck_20 : decode cX7_isStuck 20 = .ok (.iload 4, 2) := by decide +kernel
theorem dX7_isStuck_22 : decode cX7_isStuck 22 = .ok (.aaload, 1) := by decide +kernel
theorem dX7_isStuck_23 : decode cX7_isStuck 23 = .ok (.astore 5, 2) := by decide +kernel
theorem dX7_isStuck_25 : decode cX7_isStuck 25 = .ok (.aload 5, 2) := by decide +kernel
theorem dX7_isStuck_27 : decode cX7_isStuck 27 = .ok (.getfield 55, 3) := by decide +kernel
theorem dX7_isStuck_30 : decode cX7_isStuck 30 = .ok (.ifCond .eq 12, 3) := by decide +kernel
theorem dX7_isStuck_33 : decode cX7_isStuck 33 = .ok (.aload 5, 2) := by decide +kernel
theorem dX7_isStuck_35 : decode cX7_isStuck 35 = .ok (.getfield 55, 3) := by decide +kernel
theorem dX7_isStuck_38 : decode cX7_isStuck 38 = .ok (.iconst 3, 1) := by decide +kernel
theorem dX7_isStuck_39 : decode cX7_isStuck 39 = .ok (.if_icmp .ne 5, 3) := by decide +kernel
theorem dX7_isStuck_42 : decode cX7_isStuck 42 = .ok (.iconst 0, 1) := by decide +kernel
theorem dX7_isStuck_43 : decode cX7_isStuck 43 = .ok (.ireturn, 1) := by decide +kernel
theorem dX7_isStuck_44 : decode cX7_isStuck 44 = .ok (.iload_n 1, 1) := by decide +kernel
theorem dX7_isStuck_45 : decode cX7_isStuck 45 = .ok (.aload 5, 2) := by decide +kernel
theorem dX7_isStuck_47 : decode cX7_isStuck 47 = .ok (.getfield 55, 3) := by decide +kernel
theorem dX7_isStuck_50 : decode cX7_isStuck 50 = .ok (.iconst 5, 1) := by decide +kernel
theorem dX7_isStuck_51 : decode cX7_isStuck 51 = .ok (.if_icmp .eq 7, 3) := by decide +kernel
theorem dX7_isStuck_54 : decode cX7_isStuck 54 = .ok (.iconst 1, 1) := by decide +kernel
theorem dX7_isStuck_55 : decode cX7_isStuck 55 = .ok (.goto 4, 3) := by decide +kernel
theorem dX7_isStuck_58 : decode cX7_isStuck 58 = .ok (.iconst 0, 1) := by decide +kernel
theorem dX7_isStuck_59 : decode cX7_isStuck 59 = .ok (.ior, 1) := by decide +kernel
theorem dX7_isStuck_60 : decode cX7_isStuck 60 = .ok (.istore_n 1, 1) := by decide +kernel
theorem dX7_isStuck_61 : decode cX7_isStuck 61 = .ok (.iinc 4 1, 3) := by decide +kernel
theorem dX7_isStuck_64 : decode cX7_isStuck 64 = .ok (.goto (-51), 3) := by decide +kernel
theorem dX7_isStuck_67 : decode cX7_isStuck 67 = .ok (.iload_n 1, 1) := by decide +kernel
theorem dX7_isStuck_68 : decode cX7_isStuck 68 = .ok (.ireturn, 1) := by decide +kernel
theorem dX7_isSame_0 : decode cX7_isSame 0 = .ok (.iconst 0, 1) := by decide +kernel
theorem dX7_isSame_1 : decode cX7_isSame 1 = .ok (.istore_n 2, 1) := by decide +kernel
theorem dX7_isSame_2 : decode cX7_isSame 2 = .ok (.iconst 0, 1) := by decide +kernel
theorem dX7_isSame_3 : decode cX7_isSame 3 = .ok (.istore_n 3, 1) := by decide +kernel
theorem dX7_isSame_4 : decode cX7_isSame 4 = .ok (.iload_n 3, 1) := by decide +kernel
theorem dX7_isSame_5 : decode cX7_isSame 5 = .ok (.aload_n 0, 1) := by decide +kernel
theorem dX7_isSame_6 : decode cX7_isSame 6 = .ok (.getfield 7, 3) := by decide +kernel
theorem dX7_isSame_9 : decode cX7_isSame 9 = .ok (.arraylength, 1) := by decide +kernel
theorem dX7_isSame_10 : decode cX7_isSame 10 = .ok (.if_icmp .ge 96, 3) := by decide +kernel
theorem dX7_isSame_13 : decode cX7_isSame 13 = .ok (.aload_n 1, 1) := by decide +kernel
theorem dX7_isSame_14 : decode cX7_isSame 14 = .ok (.iload_n 3, 1) := by decide +kernel
theorem dX7_isSame_15 : decode cX7_isSame 15 = .ok (.invokevirtual 96, 3) := by decide +kernel
theorem dX7_isSame_18 : decode cX7_isSame 18 = .ok (.aload_n 0, 1) := by decide +kernel
theorem dX7_isSame_19 : decode cX7_isSame 19 = .ok (.getfield 14, 3) := by decide +kernel
theorem dX7_isSame_22 : decode cX7_isSame 22 = .ok (.iload_n 3, 1) := by decide +kernel
theorem dX7_isSame_23 : decode cX7_isSame 23 = .ok (.aaload, 1) := by decide +kernel
theorem dX7_isSame_24 : decode cX7_isSame 24 = .ok (.arraylength, 1) := by decide +kernel
theorem dX7_isSame_25 : decode cX7_isSame 25 = .ok (.if_icmp .ne 31, 3) := by decide +kernel
theorem dX7_isSame_28 : decode cX7_isSame 28 = .ok (.aload_n 1, 1) := by decide +kernel
theorem dX7_isSame_29 : decode cX7_isSame 29 = .ok (.iload_n 3, 1) := by decide +kernel
theorem dX7_isSame_30 : decode cX7_isSame 30 = .ok (.invokevirtual 102, 3) := by decide +kernel
theorem dX7_isSame_33 : decode cX7_isSame 33 = .ok (.aload_n 0, 1) := by decide +kernel
theorem dX7_isSame_34 : decode cX7_isSame 34 = .ok (.iconst 1, 1) := by decide +kernel
theorem dX7_isSame_35 : decode cX7_isSame 35 = .ok (.iload_n 3, 1) := by decide +kernel
theorem dX7_isSame_36 : decode cX7_isSame 36 = .ok (.invokevirtual 105, 3) := by decide +kernel
theorem dX7_isSame_39 : decode cX7_isSame 39 = .ok (.if_icmp .ne 17, 3) := by decide +kernel
theorem dX7_isSame_42 : decode cX7_isSame 42 = .ok (.aload_n 1, 1) := by decide +kernel
theorem dX7_isSame_43 : decode cX7_isSame 43 = .ok (.iload_n 3, 1) := by decide +kernel
theorem dX7_isSame_44 : decode cX7_isSame 44 = .ok (.invokevirtual 109, 3) := by decide +kernel
theorem dX7_isSame_47 : decode cX7_isSame 47 = .ok (.aload_n 0, 1) := by decide +kernel
theorem dX7_isSame_48 : decode cX7_isSame 48 = .ok (.iconst 2, 1) := by decide +kernel
theorem dX7_isSame_49 : decode cX7_isSame 49 = .ok (.iload_n 3, 1) := by decide +kernel
theorem dX7_isSame_50 : decode cX7_isSame 50 = .ok (.invokevirtual 105, 3) := by decide +kernel
theorem dX7_isSame_53 : decode cX7_isSame 53 = .ok (.if_icmp .eq 5, 3) := by decide +kernel
theorem dX7_isSame_56 : decode cX7_isSame 56 = .ok (.iconst 0, 1) := by decide +kernel
theorem dX7_isSame_57 : decode cX7_isSame 57 = .ok (.ireturn, 1) := by decide +kernel
theorem dX7_isSame_58 : decode cX7_isSame 58 = .ok (.iconst 0, 1) := by decide +kernel
theorem dX7_isSame_59 : decode cX7_isSame 59 = .ok (.istore 4, 2) := by decide +kernel
theorem dX7_isSame_61 : decode cX7_isSame 61 = .ok (.iload 4, 2) := by decide +kernel
theorem dX7_isSame_63 : decode cX7_isSame 63 = .ok (.aload_n 0, 1) := by decide +kernel
theorem dX7_isSame_64 : decode cX7_isSame 64 = .ok (.getfield 14, 3) := by decide +kernel
theorem dX7_isSame_67 : decode cX7_isSame 67 = .ok (.iload_n 3, 1) := by decide +kernel
theorem dX7_isSame_68 : decode cX7_isSame 68 = .ok (.aaload, 1) := by decide +kernel
theorem dX7_isSame_69 : decode cX7_isSame 69 = .ok (.arraylength, 1) := by decide +kernel
theorem dX7_isSame_70 : decode cX7_isSame 70 = .ok (.if_icmp .ge 30, 3) := by decide +kernel
theorem dX7_isSame_73 : decode cX7_isSame 73 = .ok (.aload_n 1, 1) := by decide +kernel
theorem dX7_isSame_74 : decode cX7_isSame 74 = .ok (.iload_n 3, 1) := by decide +kernel
theorem dX7_isSame_75 : decode cX7_isSame 75 = .ok (.iload 4, 2) := by decide +kernel
theorem dX7_isSame_77 : decode cX7_isSame 77 = .ok (.invokevirtual 112, 3) := by decide +kernel
theorem dX7_isSame_80 : decode cX7_isSame 80 = .ok (.aload_n 0, 1) := by decide +kernel
theorem dX7_isSame_81 : decode cX7_isSame 81 = .ok (.getfield 14, 3) := by decide +kernel
theorem dX7_isSame_84 : decode cX7_isSame 84 = .ok (.iload_n 3, 1) := by decide +kernel
theorem dX7_isSame_85 : decode cX7_isSame 85 = .ok (.aaload, 1) := by decide +kernel
theorem dX7_isSame_86 : decode cX7_isSame 86 = .ok (.iload 4, 2) := by decide +kernel
theorem dX7_isSame_88 : decode cX7_isSame 88 = .ok (.iaload, 1) := by decide +kernel
theorem dX7_isSame_89 : decode cX7_isSame 89 = .ok (.if_icmp .eq 5, 3) := by decide +kernel
theorem dX7_isSame_92 : decode cX7_isSame 92 = .ok (.iconst 0, 1) := by decide +kernel
theorem dX7_isSame_93 : decode cX7_isSame 93 = .ok (.ireturn, 1) := by decide +kernel
theorem dX7_isSame_94 : decode cX7_isSame 94 = .ok (.iinc 4 1, 3) := by decide +kernel
theorem dX7_isSame_97 : decode cX7_isSame 97 = .ok (.goto (-36), 3) := by decide +kernel
theorem dX7_isSame_100 : decode cX7_isSame 100 = .ok (.iinc 3 1, 3) := by decide +kernel
theorem dX7_isSame_103 : decode cX7_isSame 103 = .ok (.goto (-99), 3) := by decide +kernel
theorem dX7_isSame_106 : decode cX7_isSame 106 = .ok (.iconst 0, 1) := by decide +kernel
theorem dX7_isSame_107 : decode cX7_isSame 107 = .ok (.istore_n 3, 1) := by decide +kernel
theorem dX7_isSame_108 : decode cX7_isSame 108 = .ok (.iload_n 3, 1) := by decide +kernel
theorem dX7_isSame_109 : decode cX7_isSame 109 = .ok (.aload_n 0, 1) := by decide +kernel
theorem dX7_isSame_110 : decode cX7_isSame 110 = .ok (.getfield 20, 3) := by decide +kernel
theorem dX7_isSame_113 : decode cX7_isSame 113 = .ok (.arraylength, 1) := by decide +kernel
theorem dX7_isSame_114 : decode cX7_isSame 114 = .ok (.if_icmp .ge 133, 3) := by decide +kernel
theorem dX7_isSame_117 : decode cX7_isSame 117 = .ok (.aload_n 0, 1) := by decide +kernel
theorem dX7_isSame_118 : decode cX7_isSame 118 = .ok (.getfield 20, 3) := by decide +kernel
theorem dX7_isSame_121 : decode cX7_isSame 121 = .ok (.iload_n 3, 1) := by decide +kernel
theorem dX7_isSame_122 : decode cX7_isSame 122 = .ok (.aaload, 1) := by decide +kernel
theorem dX7_isSame_123 : decode cX7_isSame 123 = .ok (.astore 4, 2) := by decide +kernel
theorem dX7_isSame_125 : decode cX7_isSame 125 = .ok (.aload_n 0, 1) := by decide +kernel
theorem dX7_isSame_126 : decode cX7_isSame 126 = .ok (.getfield 24, 3) := by decide +kernel
theorem dX7_isSame_129 : decode cX7_isSame 129 = .ok (.arraylength, 1) := by decide +kernel
theorem dX7_isSame_130 : decode cX7_isSame 130 = .ok (.iconst 1, 1) := by decide +kernel
theorem dX7_isSame_131 : decode cX7_isSame 131 = .ok (.isub, 1) := by decide +kernel
theorem dX7_isSame_132 : decode cX7_isSame 132 = .ok (.istore 5, 2) := by decide +kernel
theorem dX7_isSame_134 : decode cX7_isSame 134 = .ok (.iload 5, 2) := by decide +kernel
theorem dX7_isSame_136 : decode cX7_isSame 136 = .ok (.ifCond .lt 20, 3) := by decide +kernel
theorem dX7_isSame_139 : decode cX7_isSame 139 = .ok (.aload_n 0, 1) := by decide +kernel
theorem dX7_isSame_140 : decode cX7_isSame 140 = .ok (.getfield 24, 3) := by decide +kernel
theorem dX7_isSame_143 : decode cX7_isSame 143 = .ok (.iload 5, 2) := by decide +kernel
theorem dX7_isSame_145 : decode cX7_isSame 145 = .ok (.iaload, 1) := by decide +kernel
theorem dX7_isSame_146 : decode cX7_isSame 146 = .ok (.iload_n 3, 1) := by decide +kernel
theorem dX7_isSame_147 : decode cX7_isSame 147 = .ok (.if_icmp .eq 9, 3) := by decide +kernel
theorem dX7_isSame_150 : decode cX7_isSame 150 = .ok (.iinc 5 (-1), 3) := by decide +kernel
theorem dX7_isSame_153 : decode cX7_isSame 153 = .ok (.goto (-19), 3) := by decide +kernel
theorem dX7_isSame_156 : decode cX7_isSame 156 = .ok (.iload_n 2, 1) := by decide +kernel
theorem dX7_isSame_157 : decode cX7_isSame 157 = .ok (.aload 4, 2) := by decide +kernel
theorem dX7_isSame_159 : decode cX7_isSame 159 = .ok (.getfield 64, 3) := by decide +kernel
theorem dX7_isSame_162 : decode cX7_isSame 162 = .ok (.iadd, 1) := by decide +kernel
theorem dX7_isSame_163 : decode cX7_isSame 163 = .ok (.istore_n 2, 1) := by decide +kernel
theorem dX7_isSame_164 : decode cX7_isSame 164 = .ok (.aload_n 1, 1) := by decide +kernel
theorem dX7_isSame_165 : decode cX7_isSame 165 = .ok (.iload_n 3, 1) := by decide +kernel
theorem dX7_isSame_166 : decode cX7_isSame 166 = .ok (.invokevirtual 115, 3) := by decide +kernel
theorem dX7_isSame_169 : decode cX7_isSame 169 = .ok (.aload 4, 2) := by decide +kernel
theorem dX7_isSame_171 : decode cX7_isSame 171 = .ok (.getfield 55, 3) := by decide +kernel
theorem dX7_isSame_174 : decode cX7_isSame 174 = .ok (.if_icmp .ne 65, 3) := by decide +kernel
theorem dX7_isSame_177 : decode cX7_isSame 177 = .ok (.aload_n 1, 1) := by decide +kernel
theorem dX7_isSame_178 : decode cX7_isSame 178 = .ok (.iload_n 3, 1) := by decide +kernel
theorem dX7_isSame_179 : decode cX7_isSame 179 = .ok (.invokevirtual 118, 3) := by decide +kernel
theorem dX7_isSame_182 : decode cX7_isSame 182 = .ok (.aload 4, 2) := by decide +kernel
theorem dX7_isSame_184 : decode cX7_isSame 184 = .ok (.getfield 49, 3) := by decide +kernel
theorem dX7_isSame_187 : decode cX7_isSame 187 = .ok (.if_icmp .ne 52, 3) := by decide +kernel
theorem dX7_isSame_190 : decode cX7_isSame 190 = .ok (.aload_n 1, 1) := by decide +kernel
theorem dX7_isSame_191 : decode cX7_isSame 191 = .ok (.iload_n 3, 1) := by decide +kernel
theorem dX7_isSame_192 : decode cX7_isSame 192 = .ok (.invokevirtual 121, 3) := by decide +kernel
theorem dX7_isSame_195 : decode cX7_isSame 195 = .ok (.aload 4, 2) := by decide +kernel
theorem dX7_isSame_197 : decode cX7_isSame 197 = .ok (.getfield 52, 3) := by decide +kernel
theorem dX7_isSame_200 : decode cX7_isSame 200 = .ok (.if_icmp .ne 39, 3) := by decide +kernel
theorem dX7_isSame_203 : decode cX7_isSame 203 = .ok (.aload_n 1, 1) := by decide +kernel
theorem dX7_isSame_204 : decode cX7_isSame 204 = .ok (.iload_n 3, 1) := by decide +kernel
theorem dX7_isSame_205 : decode cX7_isSame 205 = .ok (.invokevirtual 124, 3) := by decide +kernel
theorem dX7_isSame_208 : decode cX7_isSame 208 = .ok (.aload 4, 2) := by decide +kernel
theorem dX7_isSame_210 : decode cX7_isSame 210 = .ok (.getfield 61, 3) := by decide +kernel
theorem dX7_isSame_213 : decode cX7_isSame 213 = .ok (.if_icmp .ne 26, 3) := by decide +kernel
theorem dX7_isSame_216 : decode cX7_isSame 216 = .ok (.aload_n 1, 1) := by decide +kernel
theorem dX7_isSame_217 : decode cX7_isSame 217 = .ok (.iload_n 3, 1) := by decide +kernel
theorem dX7_isSame_218 : decode cX7_isSame 218 = .ok (.invokevirtual 127, 3) := by decide +kernel
theorem dX7_isSame_221 : decode cX7_isSame 221 = .ok (.aload 4, 2) := by decide +kernel
theorem dX7_isSame_223 : decode cX7_isSame 223 = .ok (.getfield 64, 3) := by decide +kernel
theorem dX7_isSame_226 : decode cX7_isSame 226 = .ok (.if_icmp .ne 13, 3) := by decide +kernel
theorem dX7_isSame_229 : decode cX7_isSame 229 = .ok (.aload_n 1, 1) := by decide +kernel
theorem dX7_isSame_230 : decode cX7_isSame 230 = .ok (.iload_n 3, 1) := by decide +kernel
theorem dX7_isSame_231 : decode cX7_isSame 231 = .ok (.invokevirtual 130, 3) := by decide +kernel
theorem dX7_isSame_234 : decode cX7_isSame 234 = .ok (.iload 5, 2) := by decide +kernel
theorem dX7_isSame_236 : decode cX7_isSame 236 = .ok (.if_icmp .eq 5, 3) := by decide +kernel
theorem dX7_isSame_239 : decode cX7_isSame 239 = .ok (.iconst 0, 1) := by decide +kernel
theorem dX7_isSame_240 : decode cX7_isSame 240 = .ok (.ireturn, 1) := by decide +kernel
theorem dX7_isSame_241 : decode cX7_isSame 241 = .ok (.iinc 3 1, 3) := by decide +kernel
theorem dX7_isSame_244 : decode cX7_isSame 244 = .ok (.goto (-136), 3) := by decide +kernel
theorem dX7_isSame_247 : decode cX7_isSame 247 = .ok (.aload_n 1, 1) := by decide +kernel
theorem dX7_isSame_248 : decode cX7_isSame 248 = .ok (.invokevirtual 133, 3) := by decide +kernel
theorem dX7_isSame_251 : decode cX7_isSame 251 = .ok (.aload_n 0, 1) := by decide +kernel
theorem dX7_isSame_252 : decode cX7_isSame 252 = .ok (.getfield 31, 3) := by decide +kernel
theorem dX7_isSame_255 : decode cX7_isSame 255 = .ok (.if_icmp .ne 118, 3) := by decide +kernel
theorem dX7_isSame_258 : decode cX7_isSame 258 = .ok (.aload_n 1, 1) := by decide +kernel
theorem dX7_isSame_259 : decode cX7_isSame 259 = .ok (.invokevirtual 136, 3) := by decide +kernel
theorem dX7_isSame_262 : decode cX7_isSame 262 = .ok (.aload_n 0, 1) := by decide +kernel
theorem dX7_isSame_263 : decode cX7_isSame 263 = .ok (.getfield 7, 3) := by decide +kernel
theorem dX7_isSame_266 : decode cX7_isSame 266 = .ok (.arraylength, 1) := by decide +kernel
theorem dX7_isSame_267 : decode cX7_isSame 267 = .ok (.if_icmp .ne 106, 3) := by decide +kernel
theorem dX7_isSame_270 : decode cX7_isSame 270 = .ok (.aload_n 1, 1) := by decide +kernel
theorem dX7_isSame_271 : decode cX7_isSame 271 = .ok (.invokevirtual 139, 3) := by decide +kernel
theorem dX7_isSame_274 : decode cX7_isSame 274 = .ok (.aload_n 0, 1) := by decide +kernel
theorem dX7_isSame_275 : decode cX7_isSame 275 = .ok (.getfield 20, 3) := by decide +kernel
theorem dX7_isSame_278 : decode cX7_isSame 278 = .ok (.arraylength, 1) := by decide +kernel
theorem dX7_isSame_279 : decode cX7_isSame 279 = .ok (.if_icmp .ne 94, 3) := by decide +kernel
theorem dX7_isSame_282 : decode cX7_isSame 282 = .ok (.aload_n 1, 1) := by decide +kernel
theorem dX7_isSame_283 : decode cX7_isSame 283 = .ok (.invokevirtual 141, 3) := by decide +kernel
theorem dX7_isSame_286 : decode cX7_isSame 286 = .ok (.aload_n 0, 1) := by decide +kernel
theorem dX7_isSame_287 : decode cX7_isSame 287 = .ok (.invokevirtual 144, 3) := by decide +kernel
theorem dX7_isSame_290 : decode cX7_isSame 290 = .ok (.if_icmp .ne 83, 3) := by decide +kernel
theorem dX7_isSame_293 : decode cX7_isSame 293 = .ok (.aload_n 1, 1) := by decide +kernel
theorem dX7_isSame_294 : decode cX7_isSame 294 = .ok (.invokevirtual 145, 3) := by decide +kernel
theorem dX7_isSame_297 : decode cX7_isSame 297 = .ok (.aload_n 0, 1) := by decide +kernel
theorem dX7_isSame_298 : decode cX7_isSame 298 = .ok (.getfield 35, 3) := by decide +kernel
theorem dX7_isSame_301 : decode cX7_isSame 301 = .ok (.if_icmp .ne 72, 3) := by decide +kernel
theorem dX7_isSame_304 : decode cX7_isSame 304 = .ok (.aload_n 1, 1) := by decide +kernel
theorem dX7_isSame_305 : decode cX7_isSame 305 = .ok (.invokevirtual 148, 3) := by decide +kernel
theorem dX7_isSame_308 : decode cX7_isSame 308 = .ok (.aload_n 0, 1) := by decide +kernel
theorem dX7_isSame_309 : decode cX7_isSame 309 = .ok (.getfield 24, 3) := by decide +kernel
theorem dX7_isSame_312 : decode cX7_isSame 312 = .ok (.arraylength, 1) := by decide +kernel
theorem dX7_isSame_313 : decode cX7_isSame 313 = .ok (.ifCond .ne 7, 3) := by decide +kernel
theorem dX7_isSame_316 : decode cX7_isSame 316 = .ok (.iconst (-1), 1) := by decide +kernel
theorem dX7_isSame_317 : decode cX7_isSame 317 = .ok (.goto 9, 3) := by decide +kernel
theorem dX7_isSame_320 : decode cX7_isSame 320 = .ok (.aload_n 0, 1) := by decide +kernel
theorem dX7_isSame_321 : decode cX7_isSame 321 = .ok (.getfield 24, 3) := by decide +kernel
theorem dX7_isSame_324 : decode cX7_isSame 324 = .ok (.iconst 0, 1) := by decide +kernel
theorem dX7_isSame_325 : decode cX7_isSame 325 = .ok (.iaload, 1) := by decide +kernel
theorem dX7_isSame_326 : decode cX7_isSame 326 = .ok (.if_icmp .ne 47, 3) := by decide +kernel
theorem dX7_isSame_329 : decode cX7_isSame 329 = .ok (.aload_n 1, 1) := by decide +kernel
theorem dX7_isSame_330 : decode cX7_isSame 330 = .ok (.invokevirtual 151, 3) := by decide +kernel
theorem dX7_isSame_333 : decode cX7_isSame 333 = .ok (.aload_n 0, 1) := by decide +kernel
theorem dX7_isSame_334 : decode cX7_isSame 334 = .ok (.invokevirtual 154, 3) := by decide +kernel
theorem dX7_isSame_337 : decode cX7_isSame 337 = .ok (.if_icmp .ne 36, 3) := by decide +kernel
theorem dX7_isSame_340 : decode cX7_isSame 340 = .ok (.aload_n 1, 1) := by decide +kernel
theorem dX7_isSame_341 : decode cX7_isSame 341 = .ok (.invokevirtual 155, 3) := by decide +kernel
theorem dX7_isSame_344 : decode cX7_isSame 344 = .ok (.aload_n 0, 1) := by decide +kernel
theorem dX7_isSame_345 : decode cX7_isSame 345 = .ok (.getfield 20, 3) := by decide +kernel
theorem dX7_isSame_348 : decode cX7_isSame 348 = .ok (.arraylength, 1) := by decide +kernel
theorem dX7_isSame_349 : decode cX7_isSame 349 = .ok (.ifCond .ne 7, 3) := by decide +kernel
theorem dX7_isSame_352 : decode cX7_isSame 352 = .ok (.dconst 0, 1) := by decide +kernel
theorem dX7_isSame_353 : decode cX7_isSame 353 = .ok (.goto 12, 3) := by decide +kernel
theorem dX7_isSame_356 : decode cX7_isSame 356 = .ok (.iload_n 2, 1) := by decide +kernel
theorem dX7_isSame_357 : decode cX7_isSame 357 = .ok (.i2d, 1) := by decide +kernel
theorem dX7_isSame_358 : decode cX7_isSame 358 = .ok (.aload_n 0, 1) := by decide +kernel
theorem dX7_isSame_359 : decode cX7_isSame 359 = .ok (.getfield 20, 3) := by decide +kernel
theorem dX7_isSame_362 : decode cX7_isSame 362 = .ok (.arraylength, 1) := by decide +kernel
theorem dX7_isSame_363 : decode cX7_isSame 363 = .ok (.i2d, 1) := by decide +kernel
theorem dX7_isSame_364 : decode cX7_isSame 364 = .ok (.ddiv, 1) := by decide +kernel
theorem dX7_isSame_365 : decode cX7_isSame 365 = .ok (.dcmp .l, 1) := by decide +kernel
theorem dX7_isSame_366 : decode cX7_isSame 366 = .ok (.ifCond .ne 7, 3) := by decide +kernel
theorem dX7_isSame_369 : decode cX7_isSame 369 = .ok (.iconst 1, 1) := by decide +kernel
theorem dX7_isSame_370 : decode cX7_isSame 370 = .ok (.goto 4, 3) := by decide +kernel
theorem dX7_isSame_373 : decode cX7_isSame 373 = .ok (.iconst 0, 1) := by decide +kernel
theorem dX7_isSame_374 : decode cX7_isSame 374 = .ok (.ireturn, 1) := by decide +kernel
theorem dL_below_0 : decode cL_below 0 = .ok (.iload_n 0, 1) := by decide +kernel
theorem dL_below_1 : decode cL_below 1 = .ok (.ldc 7, 2) := by decide +kernel
theorem dL_below_3 : decode cL_below 3 = .ok (.iand, 1) := by decide +kernel
theorem dL_below_4 : decode cL_below 4 = .ok (.iload_n 1, 1) := by decide +kernel
theorem dL_below_5 : decode cL_below 5 = .ok (.irem, 1) := by decide +kernel
theorem dL_below_6 : decode cL_below 6 = .ok (.ireturn, 1) := by decide +kernel
theorem dL_cell_0 : decode cL_cell 0 = .ok (.iload_n 1, 1) := by decide +kernel
theorem dL_cell_1 : decode cL_cell 1 = .ok (.aload_n 0, 1) := by decide +kernel
theorem dL_cell_2 : decode cL_cell 2 = .ok (.arraylength, 1) := by decide +kernel
theorem dL_cell_3 : decode cL_cell 3 = .ok (.if_icmp .ge 9, 3) := by decide +kernel
theorem dL_cell_6 : decode cL_cell 6 = .ok (.aload_n 0, 1) := by decide +kernel
theorem dL_cell_7 : decode cL_cell 7 = .ok (.iload_n 1, 1) := by decide +kernel
theorem dL_cell_8 : decode cL_cell 8 = .ok (.iaload, 1) := by decide +kernel
theorem dL_cell_9 : decode cL_cell 9 = .ok (.goto 9, 3) := by decide +kernel
theorem dL_cell_12 : decode cL_cell 12 = .ok (.ldc 8, 2) := by decide +kernel
theorem dL_cell_14 : decode cL_cell 14 = .ok (.iload_n 1, 1) := by decide +kernel
theorem dL_cell_15 : decode cL_cell 15 = .ok (.iconst 3, 1) := by decide +kernel
theorem dL_cell_16 : decode cL_cell 16 = .ok (.iadd, 1) := by decide +kernel
theorem dL_cell_17 : decode cL_cell 17 = .ok (.imul, 1) := by decide +kernel
theorem dL_cell_18 : decode cL_cell 18 = .ok (.ireturn, 1) := by decide +kernel
theorem dL_act_0 : decode cL_act 0 = .ok (.aload_n 1, 1) := by decide +kernel
theorem dL_act_1 : decode cL_act 1 = .ok (.getfield 9, 3) := by decide +kernel
theorem dL_act_4 : decode cL_act 4 = .ok (.arraylength, 1) := by decide +kernel
theorem dL_act_5 : decode cL_act 5 = .ok (.istore_n 3, 1) := by decide +kernel
theorem dL_act_6 : decode cL_act 6 = .ok (.aload_n 1, 1) := by decide +kernel
theorem dL_act_7 : decode cL_act 7 = .ok (.getfield 15, 3) := by decide +kernel
theorem dL_act_10 : decode cL_act 10 = .ok (.arraylength, 1) := by decide +kernel
theorem dL_act_11 : decode cL_act 11 = .ok (.istore 4, 2) := by decide +kernel
theorem dL_act_13 : decode cL_act 13 = .ok (.iload_n 2, 1) := by decide +kernel
theorem dL_act_14 : decode cL_act 14 = .ok (.bipush 16, 2) := by decide +kernel
theorem dL_act_16 : decode cL_act 16 = .ok (.invokestatic 19, 3) := by decide +kernel
theorem dL_act_19 : decode cL_act 19 = .ok (.istore 5, 2) := by decide +kernel
theorem dL_act_21 : decode cL_act 21 = .ok (.iconst 1, 1) := by decide +kernel
theorem dL_act_22 : decode cL_act 22 = .ok (.istore 6, 2) := by decide +kernel
theorem dL_act_24 : decode cL_act 24 = .ok (.iconst 1, 1) := by decide +kernel
theorem dL_act_25 : decode cL_act 25 = .ok (.istore 7, 2) := by decide +kernel
theorem dL_act_27 : decode cL_act 27 = .ok (.iload_n 3, 1) := by decide +kernel
theorem dL_act_28 : decode cL_act 28 = .ok (.ifCond .eq 8, 3) := by decide +kernel
theorem dL_act_31 : decode cL_act 31 = .ok (.iload 5, 2) := by decide +kernel
theorem dL_act_33 : decode cL_act 33 = .ok (.ifCond .ne 58, 3) := by decide +kernel
theorem dL_act_36 : decode cL_act 36 = .ok (.iload_n 3, 1) := by decide +kernel
theorem dL_act_37 : decode cL_act 37 = .ok (.iconst 4, 1) := by decide +kernel
theorem dL_act_38 : decode cL_act 38 = .ok (.if_icmp .ge 7, 3) := by decide +kernel
theorem dL_act_41 : decode cL_act 41 = .ok (.iconst 1, 1) := by decide +kernel
theorem dL_act_42 : decode cL_act 42 = .ok (.goto 4, 3) := by decide +kernel
theorem dL_act_45 : decode cL_act 45 = .ok (.iconst 0, 1) := by decide +kernel
theorem dL_act_46 : decode cL_act 46 = .ok (.istore 6, 2) := by decide +kernel
theorem dL_act_48 : decode cL_act 48 = .ok (.iconst 1, 1) := by decide +kernel
theorem dL_act_49 : decode cL_act 49 = .ok (.iload_n 2, 1) := by decide +kernel
theorem dL_act_50 : decode cL_act 50 = .ok (.iconst 4, 1) := by decide +kernel
theorem dL_act_51 : decode cL_act 51 = .ok (.ishr, 1) := by decide +kernel
theorem dL_act_52 : decode cL_act 52 = .ok (.iconst 4, 1) := by decide +kernel
theorem dL_act_53 : decode cL_act 53 = .ok (.invokestatic 19, 3) := by decide +kernel
theorem dL_act_56 : decode cL_act 56 = .ok (.iadd, 1) := by decide +kernel
theorem dL_act_57 : decode cL_act 57 = .ok (.istore 8, 2) := by decide +kernel
theorem dL_act_59 : decode cL_act 59 = .ok (.iload 6, 2) := by decide +kernel
theorem dL_act_61 : decode cL_act 61 = .ok (.ifCond .eq 9, 3) := by decide +kernel
theorem dL_act_64 : decode cL_act 64 = .ok (.aload_n 1, 1) := by decide +kernel
theorem dL_act_65 : decode cL_act 65 = .ok (.iload 8, 2) := by decide +kernel
theorem dL_act_67 : decode cL_act 67 = .ok (.invokevirtual 25, 3) := by decide +kernel
theorem dL_act_70 : decode cL_act 70 = .ok (.aload_n 0, 1) := by decide +kernel
theorem dL_act_71 : decode cL_act 71 = .ok (.iload 8, 2) := by decide +kernel
theorem dL_act_73 : decode cL_act 73 = .ok (.invokevirtual 29, 3) := by decide +kernel
theorem dL_act_76 : decode cL_act 76 = .ok (.iload_n 3, 1) := by decide +kernel
theorem dL_act_77 : decode cL_act 77 = .ok (.if_icmp .ne 12, 3) := by decide +kernel
theorem dL_act_80 : decode cL_act 80 = .ok (.iload 6, 2) := by decide +kernel
theorem dL_act_82 : decode cL_act 82 = .ok (.ifCond .eq 7, 3) := by decide +kernel
theorem dL_act_85 : decode cL_act 85 = .ok (.iconst 1, 1) := by decide +kernel
theorem dL_act_86 : decode cL_act 86 = .ok (.goto 4, 3) := by decide +kernel
theorem dL_act_89 : decode cL_act 89 = .ok (.iconst 0, 1) := by decide +kernel
theorem dL_act_90 : decode cL_act 90 = .ok (.ireturn, 1) := by decide +kernel
theorem dL_act_91 : decode cL_act 91 = .ok (.iload 4, 2) := by decide +kernel
theorem dL_act_93 : decode cL_act 93 = .ok (.ifCond .eq 9, 3) := by decide +kernel
theorem dL_act_96 : decode cL_act 96 = .ok (.iload 5, 2) := by decide +kernel
theorem dL_act_98 : decode cL_act 98 = .ok (.iconst 1, 1) := by decide +kernel
theorem dL_act_99 : decode cL_act 99 = .ok (.if_icmp .ne 46, 3) := by decide +kernel
theorem dL_act_102 : decode cL_act 102 = .ok (.iload 4, 2) := by decide +kernel
theorem dL_act_104 : decode cL_act 104 = .ok (.bipush 8, 2) := by decide +kernel
theorem dL_act_106 : decode cL_act 106 = .ok (.if_icmp .ge 7, 3) := by decide +kernel
theorem dL_act_109 : decode cL_act 109 = .ok (.iconst 1, 1) := by decide +kernel
theorem dL_act_110 : decode cL_act 110 = .ok (.goto 4, 3) := by decide +kernel
theorem dL_act_113 : decode cL_act 113 = .ok (.iconst 0, 1) := by decide +kernel
theorem dL_act_114 : decode cL_act 114 = .ok (.istore 6, 2) := by decide +kernel
theorem dL_act_116 : decode cL_act 116 = .ok (.iload 6, 2) := by decide +kernel
theorem dL_act_118 : decode cL_act 118 = .ok (.ifCond .eq 7, 3) := by decide +kernel
theorem dL_act_121 : decode cL_act 121 = .ok (.aload_n 1, 1) := by decide +kernel
theorem dL_act_122 : decode cL_act 122 = .ok (.invokevirtual 34, 3) := by decide +kernel
theorem dL_act_125 : decode cL_act 125 = .ok (.aload_n 0, 1) := by decide +kernel
theorem dL_act_126 : decode cL_act 126 = .ok (.invokevirtual 37, 3) := by decide +kernel
theorem dL_act_129 : decode cL_act 129 = .ok (.iload 4, 2) := by decide +kernel
theorem dL_act_131 : decode cL_act 131 = .ok (.if_icmp .ne 12, 3) := by decide +kernel
theorem dL_act_134 : decode cL_act 134 = .ok (.iload 6, 2) := by decide +kernel
theorem dL_act_136 : decode cL_act 136 = .ok (.ifCond .eq 7, 3) := by decide +kernel
theorem dL_act_139 : decode cL_act 139 = .ok (.iconst 1, 1) := by decide +kernel
theorem dL_act_140 : decode cL_act 140 = .ok (.goto 4, 3) := by decide +kernel
theorem dL_act_143 : decode cL_act 143 = .ok (.iconst 0, 1) := by decide +kernel
theorem dL_act_144 : decode cL_act 144 = .ok (.ireturn, 1) := by decide +kernel
theorem dL_act_145 : decode cL_act 145 = .ok (.iload 5, 2) := by decide +kernel
theorem dL_act_147 : decode cL_act 147 = .ok (.bipush 9, 2) := by decide +kernel
theorem dL_act_149 : decode cL_act 149 = .ok (.if_icmp .ge 244, 3) := by decide +kernel
theorem dL_act_152 : decode cL_act 152 = .ok (.iload_n 2, 1) := by decide +kernel
theorem dL_act_153 : decode cL_act 153 = .ok (.iconst 4, 1) := by decide +kernel
theorem dL_act_154 : decode cL_act 154 = .ok (.ishr, 1) := by decide +kernel
theorem dL_act_155 : decode cL_act 155 = .ok (.iload 4, 2) := by decide +kernel
theorem dL_act_157 : decode cL_act 157 = .ok (.invokestatic 19, 3) := by decide +kernel
theorem dL_act_160 : decode cL_act 160 = .ok (.istore 8, 2) := by decide +kernel
theorem dL_act_162 : decode cL_act 162 = .ok (.iload_n 2, 1) := by decide +kernel
theorem dL_act_163 : decode cL_act 163 = .ok (.bipush 7, 2) := by decide +kernel
theorem dL_act_165 : decode cL_act 165 = .ok (.ishr, 1) := by decide +kernel
theorem dL_act_166 : decode cL_act 166 = .ok (.iconst 4, 1) := by decide +kernel
theorem dL_act_167 : decode cL_act 167 = .ok (.invokestatic 19, 3) := by decide +kernel
theorem dL_act_170 : decode cL_act 170 = .ok (.ifCond .ne 14, 3) := by decide +kernel
theorem dL_act_173 : decode cL_act 173 = .ok (.iload_n 2, 1) := by decide +kernel
theorem dL_act_174 : decode cL_act 174 = .ok (.iconst 5, 1) := by decide +kernel
theorem dL_act_175 : decode cL_act 175 = .ok (.ishr, 1) := by decide +kernel
theorem dL_act_176 : decode cL_act 176 = .ok (.bipush 7, 2) := by decide +kernel
theorem dL_act_178 : decode cL_act 178 = .ok (.invokestatic 19, 3) := by decide +kernel
theorem dL_act_181 : decode cL_act 181 = .ok (.goto 34, 3) := by decide +kernel
theorem dL_act_184 : decode cL_act 184 = .ok (.iload_n 2, 1) := by decide +kernel
theorem dL_act_185 : decode cL_act 185 = .ok (.bipush 6, 2) := by decide +kernel
theorem dL_act_187 : decode cL_act 187 = .ok (.ishr, 1) := by decide +kernel
theorem dL_act_188 : decode cL_act 188 = .ok (.iconst 2, 1) := by decide +kernel
theorem dL_act_189 : decode cL_act 189 = .ok (.invokestatic 19, 3) := by decide +kernel
theorem dL_act_192 : decode cL_act 192 = .ok (.ifCond .ne 14, 3) := by decide +kernel
theorem dL_act_195 : decode cL_act 195 = .ok (.iload_n 2, 1) := by decide +kernel
theorem dL_act_196 : decode cL_act 196 = .ok (.bipush 9, 2) := by decide +kernel
theorem dL_act_198 : decode cL_act 198 = .ok (.ishr, 1) := by decide +kernel
theorem dL_act_199 : decode cL_act 199 = .ok (.iconst 2, 1) := by decide +kernel
theorem dL_act_200 : decode cL_act 200 = .ok (.invokestatic 19, 3) := by decide +kernel
theorem dL_act_203 : decode cL_act 203 = .ok (.goto 12, 3) := by decide +kernel
theorem dL_act_206 : decode cL_act 206 = .ok (.iload_n 2, 1) := by decide +kernel
theorem dL_act_207 : decode cL_act 207 = .ok (.bipush 8, 2) := by decide +kernel
theorem dL_act_209 : decode cL_act 209 = .ok (.ishr, 1) := by decide +kernel
theorem dL_act_210 : decode cL_act 210 = .ok (.bipush 7, 2) := by decide +kernel
theorem dL_act_212 : decode cL_act 212 = .ok (.invokestatic 19, 3) := by decide +kernel
theorem dL_act_215 : decode cL_act 215 = .ok (.istore 9, 2) := by decide +kernel
theorem dL_act_217 : decode cL_act 217 = .ok (.iload 9, 2) := by decide +kernel
theorem dL_act_219 : decode cL_act 219 = .ok (.iconst 2, 1) := by decide +kernel
theorem dL_act_220 : decode cL_act 220 = .ok (.if_icmp .ne 15, 3) := by decide +kernel
theorem dL_act_223 : decode cL_act 223 = .ok (.iconst 1, 1) := by decide +kernel
theorem dL_act_224 : decode cL_act 224 = .ok (.iload_n 2, 1) := by decide +kernel
theorem dL_act_225 : decode cL_act 225 = .ok (.iconst 3, 1) := by decide +kernel
theorem dL_act_226 : decode cL_act 226 = .ok (.ishr, 1) := by decide +kernel
theorem dL_act_227 : decode cL_act 227 = .ok (.iconst 5, 1) := by decide +kernel
theorem dL_act_228 : decode cL_act 228 = .ok (.invokestatic 19, 3) := by decide +kernel
theorem dL_act_231 : decode cL_act 231 = .ok (.iadd, 1) := by decide +kernel
theorem dL_act_232 : decode cL_act 232 = .ok (.goto 31, 3) := by decide +kernel
theorem dL_act_235 : decode cL_act 235 = .ok (.iload_n 2, 1) := by decide +kernel
theorem dL_act_236 : decode cL_act 236 = .ok (.iconst 5, 1) := by decide +kernel
theorem dL_act_237 : decode cL_act 237 = .ok (.ishr, 1) := by decide +kernel
theorem dL_act_238 : decode cL_act 238 = .ok (.iload 9, 2) := by decide +kernel
theorem dL_act_240 : decode cL_act 240 = .ok (.iconst 4, 1) := by decide +kernel
theorem dL_act_241 : decode cL_act 241 = .ok (.if_icmp .ne 8, 3) := by decide +kernel
theorem dL_act_244 : decode cL_act 244 = .ok (.iload 4, 2) := by decide +kernel
theorem dL_act_246 : decode cL_act 246 = .ok (.goto 14, 3) := by decide +kernel
theorem dL_act_249 : decode cL_act 249 = .ok (.iload 9, 2) := by decide +kernel
theorem dL_act_251 : decode cL_act 251 = .ok (.iconst 5, 1) := by decide +kernel
theorem dL_act_252 : decode cL_act 252 = .ok (.if_icmp .ne 7, 3) := by decide +kernel
theorem dL_act_255 : decode cL_act 255 = .ok (.iconst 4, 1) := by decide +kernel
theorem dL_act_256 : decode cL_act 256 = .ok (.goto 4, 3) := by decide +kernel
theorem dL_act_259 : decode cL_act 259 = .ok (.iload_n 3, 1) := by decide +kernel
theorem dL_act_260 : decode cL_act 260 = .ok (.invokestatic 19, 3) := by decide +kernel
theorem dL_act_263 : decode cL_act 263 = .ok (.istore 10, 2) := by decide +kernel
theorem dL_act_265 : decode cL_act 265 = .ok (.iload 9, 2) := by decide +kernel
theorem dL_act_267 : decode cL_act 267 = .ok (.iconst 5, 1) := by decide +kernel
theorem dL_act_268 : decode cL_act 268 = .ok (.if_icmp .ne 15, 3) := by decide +kernel
theorem dL_act_271 : decode cL_act 271 = .ok (.iconst 1, 1) := by decide +kernel
theorem dL_act_272 : decode cL_act 272 = .ok (.iload_n 2, 1) := by decide +kernel
theorem dL_act_273 : decode cL_act 273 = .ok (.iconst 4, 1) := by decide +kernel
theorem dL_act_274 : decode cL_act 274 = .ok (.ishr, 1) := by decide +kernel
theorem dL_act_275 : decode cL_act 275 = .ok (.iconst 3, 1) := by decide +kernel
theorem dL_act_276 : decode cL_act 276 = .ok (.invokestatic 19, 3) := by decide +kernel
theorem dL_act_279 : decode cL_act 279 = .ok (.iadd, 1) := by decide +kernel
theorem dL_act_280 : decode cL_act 280 = .ok (.goto 15, 3) := by decide +kernel
theorem dL_act_283 : decode cL_act 283 = .ok (.iload_n 2, 1) := by decide +kernel
theorem dL_act_284 : decode cL_act 284 = .ok (.iconst 2, 1) := by decide +kernel
theorem dL_act_285 : decode cL_act 285 = .ok (.ishr, 1) := by decide +kernel
theorem dL_act_286 : decode cL_act 286 = .ok (.sipush 200, 3) := by decide +kernel
theorem dL_act_289 : decode cL_act 289 = .ok (.invokestatic 19, 3) := by decide +kernel
theorem dL_act_292 : decode cL_act 292 = .ok (.bipush 99, 2) := by decide +kernel
theorem dL_act_294 : decode cL_act 294 = .ok (.isub, 1) := by decide +kernel
theorem dL_act_295 : decode cL_act 295 = .ok (.istore 11, 2) := by decide +kernel
theorem dL_act_297 : decode cL_act 297 = .ok (.aload_n 1, 1) := by decide +kernel
theorem dL_act_298 : decode cL_act 298 = .ok (.iload 8, 2) := by decide +kernel
theorem dL_act_300 : decode cL_act 300 = .ok (.iload 9, 2) := by decide +kernel
theorem dL_act_302 : decode cL_act 302 = .ok (.iload 10, 2) := by decide +kernel
theorem dL_act_304 : decode cL_act 304 = .ok (.iload 11, 2) := by decide +kernel
theorem dL_act_306 : decode cL_act 306 = .ok (.invokevirtual 40, 3) := by decide +kernel
theorem dL_act_309 : decode cL_act 309 = .ok (.istore 7, 2) := by decide +kernel
theorem dL_act_311 : decode cL_act 311 = .ok (.aload_n 1, 1) := by decide +kernel
theorem dL_act_312 : decode cL_act 312 = .ok (.getfield 15, 3) := by decide +kernel
theorem dL_act_315 : decode cL_act 315 = .ok (.iload 8, 2) := by decide +kernel
theorem dL_act_317 : decode cL_act 317 = .ok (.aaload, 1) := by decide +kernel
theorem dL_act_318 : decode cL_act 318 = .ok (.getfield 44, 3) := by decide +kernel
theorem dL_act_321 : decode cL_act 321 = .ok (.arraylength, 1) := by decide +kernel
theorem dL_act_322 : decode cL_act 322 = .ok (.istore 12, 2) := by decide +kernel
theorem dL_act_324 : decode cL_act 324 = .ok (.iload 12, 2) := by decide +kernel
theorem dL_act_326 : decode cL_act 326 = .ok (.bipush 12, 2) := by decide +kernel
theorem dL_act_328 : decode cL_act 328 = .ok (.if_icmp .ge 7, 3) := by decide +kernel
theorem dL_act_331 : decode cL_act 331 = .ok (.iconst 1, 1) := by decide +kernel
theorem dL_act_332 : decode cL_act 332 = .ok (.goto 4, 3) := by decide +kernel
theorem dL_act_335 : decode cL_act 335 = .ok (.iconst 0, 1) := by decide +kernel
theorem dL_act_336 : decode cL_act 336 = .ok (.istore 6, 2) := by decide +kernel
theorem dL_act_338 : decode cL_act 338 = .ok (.iload 7, 2) := by decide +kernel
theorem dL_act_340 : decode cL_act 340 = .ok (.ifCond .eq 20, 3) := by decide +kernel
theorem dL_act_343 : decode cL_act 343 = .ok (.iload 6, 2) := by decide +kernel
theorem dL_act_345 : decode cL_act 345 = .ok (.ifCond .eq 15, 3) := by decide +kernel
theorem dL_act_348 : decode cL_act 348 = .ok (.aload_n 1, 1) := by decide +kernel
theorem dL_act_349 : decode cL_act 349 = .ok (.iload 8, 2) := by decide +kernel
theorem dL_act_351 : decode cL_act 351 = .ok (.iload 9, 2) := by decide +kernel
theorem dL_act_353 : decode cL_act 353 = .ok (.iload 10, 2) := by decide +kernel
theorem dL_act_355 : decode cL_act 355 = .ok (.iload 11, 2) := by decide +kernel
theorem dL_act_357 : decode cL_act 357 = .ok (.invokevirtual 50, 3) := by decide +kernel
theorem dL_act_360 : decode cL_act 360 = .ok (.aload_n 0, 1) := by decide +kernel
theorem dL_act_361 : decode cL_act 361 = .ok (.iload 8, 2) := by decide +kernel
theorem dL_act_363 : decode cL_act 363 = .ok (.iload 9, 2) := by decide +kernel
theorem dL_act_365 : decode cL_act 365 = .ok (.iload 10, 2) := by decide +kernel
theorem dL_act_367 : decode cL_act 367 = .ok (.iload 11, 2) := by decide +kernel
theorem dL_act_369 : decode cL_act 369 = .ok (.invokevirtual 54, 3) := by decide +kernel
theorem dL_act_372 : decode cL_act 372 = .ok (.iload 12, 2) := by decide +kernel
theorem dL_act_374 : decode cL_act 374 = .ok (.if_icmp .ne 17, 3) := by decide +kernel
theorem dL_act_377 : decode cL_act 377 = .ok (.iload 7, 2) := by decide +kernel
theorem dL_act_379 : decode cL_act 379 = .ok (.ifCond .eq 12, 3) := by decide +kernel
theorem dL_act_382 : decode cL_act 382 = .ok (.iload 6, 2) := by decide +kernel
theorem dL_act_384 : decode cL_act 384 = .ok (.ifCond .eq 7, 3) := by decide +kernel
theorem dL_act_387 : decode cL_act 387 = .ok (.iconst 1, 1) := by decide +kernel
theorem dL_act_388 : decode cL_act 388 = .ok (.goto 4, 3) := by decide +kernel
theorem dL_act_391 : decode cL_act 391 = .ok (.iconst 0, 1) := by decide +kernel
theorem dL_act_392 : decode cL_act 392 = .ok (.ireturn, 1) := by decide +kernel
theorem dL_act_393 : decode cL_act 393 = .ok (.iload 5, 2) := by decide +kernel
theorem dL_act_395 : decode cL_act 395 = .ok (.bipush 11, 2) := by decide +kernel
theorem dL_act_397 : decode cL_act 397 = .ok (.if_icmp .ge 67, 3) := by decide +kernel
theorem dL_act_400 : decode cL_act 400 = .ok (.iload_n 2, 1) := by decide +kernel
theorem dL_act_401 : decode cL_act 401 = .ok (.iconst 4, 1) := by decide +kernel
theorem dL_act_402 : decode cL_act 402 = .ok (.ishr, 1) := by decide +kernel
theorem dL_act_403 : decode cL_act 403 = .ok (.iload_n 3, 1) := by decide +kernel
theorem dL_act_404 : decode cL_act 404 = .ok (.invokestatic 19, 3) := by decide +kernel
theorem dL_act_407 : decode cL_act 407 = .ok (.istore 8, 2) := by decide +kernel
theorem dL_act_409 : decode cL_act 409 = .ok (.iload_n 2, 1) := by decide +kernel
theorem dL_act_410 : decode cL_act 410 = .ok (.bipush 6, 2) := by decide +kernel
theorem dL_act_412 : decode cL_act 412 = .ok (.ishr, 1) := by decide +kernel
theorem dL_act_413 : decode cL_act 413 = .ok (.sipush 200, 3) := by decide +kernel
theorem dL_act_416 : decode cL_act 416 = .ok (.invokestatic 19, 3) := by decide +kernel
theorem dL_act_419 : decode cL_act 419 = .ok (.bipush 99, 2) := by decide +kernel
theorem dL_act_421 : decode cL_act 421 = .ok (.isub, 1) := by decide +kernel
theorem dL_act_422 : decode cL_act 422 = .ok (.istore 9, 2) := by decide +kernel
theorem dL_act_424 : decode cL_act 424 = .ok (.aload_n 1, 1) := by decide +kernel
theorem dL_act_425 : decode cL_act 425 = .ok (.iload 8, 2) := by decide +kernel
theorem dL_act_427 : decode cL_act 427 = .ok (.iload 9, 2) := by decide +kernel
theorem dL_act_429 : decode cL_act 429 = .ok (.invokevirtual 57, 3) := by decide +kernel
theorem dL_act_432 : decode cL_act 432 = .ok (.istore 6, 2) := by decide +kernel
theorem dL_act_434 : decode cL_act 434 = .ok (.aload_n 0, 1) := by decide +kernel
theorem dL_act_435 : decode cL_act 435 = .ok (.iload 8, 2) := by decide +kernel
theorem dL_act_437 : decode cL_act 437 = .ok (.iload 9, 2) := by decide +kernel
theorem dL_act_439 : decode cL_act 439 = .ok (.invokevirtual 61, 3) := by decide +kernel
theorem dL_act_442 : decode cL_act 442 = .ok (.aload_n 1, 1) := by decide +kernel
theorem dL_act_443 : decode cL_act 443 = .ok (.getfield 64, 3) := by decide +kernel
theorem dL_act_446 : decode cL_act 446 = .ok (.iload 8, 2) := by decide +kernel
theorem dL_act_448 : decode cL_act 448 = .ok (.aaload, 1) := by decide +kernel
theorem dL_act_449 : decode cL_act 449 = .ok (.arraylength, 1) := by decide +kernel
theorem dL_act_450 : decode cL_act 450 = .ok (.if_icmp .ne 12, 3) := by decide +kernel
theorem dL_act_453 : decode cL_act 453 = .ok (.iload 6, 2) := by decide +kernel
theorem dL_act_455 : decode cL_act 455 = .ok (.ifCond .eq 7, 3) := by decide +kernel
theorem dL_act_458 : decode cL_act 458 = .ok (.iconst 1, 1) := by decide +kernel
theorem dL_act_459 : decode cL_act 459 = .ok (.goto 4, 3) := by decide +kernel
theorem dL_act_462 : decode cL_act 462 = .ok (.iconst 0, 1) := by decide +kernel
theorem dL_act_463 : decode cL_act 463 = .ok (.ireturn, 1) := by decide +kernel
theorem dL_act_464 : decode cL_act 464 = .ok (.iconst 1, 1) := by decide +kernel
theorem dL_act_465 : decode cL_act 465 = .ok (.iload_n 2, 1) := by decide +kernel
theorem dL_act_466 : decode cL_act 466 = .ok (.iconst 4, 1) := by decide +kernel
theorem dL_act_467 : decode cL_act 467 = .ok (.ishr, 1) := by decide +kernel
theorem dL_act_468 : decode cL_act 468 = .ok (.iload_n 2, 1) := by decide +kernel
theorem dL_act_469 : decode cL_act 469 = .ok (.bipush 8, 2) := by decide +kernel
theorem dL_act_471 : decode cL_act 471 = .ok (.ishr, 1) := by decide +kernel
theorem dL_act_472 : decode cL_act 472 = .ok (.bipush 6, 2) := by decide +kernel
theorem dL_act_474 : decode cL_act 474 = .ok (.invokestatic 19, 3) := by decide +kernel
theorem dL_act_477 : decode cL_act 477 = .ok (.ifCond .ne 8, 3) := by decide +kernel
theorem dL_act_480 : decode cL_act 480 = .ok (.bipush 60, 2) := by decide +kernel
theorem dL_act_482 : decode cL_act 482 = .ok (.goto 4, 3) := by decide +kernel
theorem dL_act_485 : decode cL_act 485 = .ok (.iconst 5, 1) := by decide +kernel
theorem dL_act_486 : decode cL_act 486 = .ok (.invokestatic 19, 3) := by decide +kernel
theorem dL_act_489 : decode cL_act 489 = .ok (.iadd, 1) := by decide +kernel
theorem dL_act_490 : decode cL_act 490 = .ok (.istore 8, 2) := by decide +kernel
theorem dL_act_492 : decode cL_act 492 = .ok (.aload_n 0, 1) := by decide +kernel
theorem dL_act_493 : decode cL_act 493 = .ok (.iload 8, 2) := by decide +kernel
theorem dL_act_495 : decode cL_act 495 = .ok (.invokevirtual 67, 3) := by decide +kernel
theorem dL_act_498 : decode cL_act 498 = .ok (.aload_n 1, 1) := by decide +kernel
theorem dL_act_499 : decode cL_act 499 = .ok (.iload 8, 2) := by decide +kernel
theorem dL_act_501 : decode cL_act 501 = .ok (.invokevirtual 70, 3) := by decide +kernel
theorem dL_act_504 : decode cL_act 504 = .ok (.if_icmp .ne 7, 3) := by decide +kernel
theorem dL_act_507 : decode cL_act 507 = .ok (.iconst 1, 1) := by decide +kernel
theorem dL_act_508 : decode cL_act 508 = .ok (.goto 4, 3) := by decide +kernel
theorem dL_act_511 : decode cL_act 511 = .ok (.iconst 0, 1) := by decide +kernel
theorem dL_act_512 : decode cL_act 512 = .ok (.ireturn, 1) := by decide +kernel
theorem dL_act_513 : decode cL_act 513 = .ok (.astore 8, 2) := by decide +kernel
theorem dL_act_515 : decode cL_act 515 = .ok (.iload 7, 2) := by decide +kernel
theorem dL_act_517 : decode cL_act 517 = .ok (.ifCond .ne 7, 3) := by decide +kernel
theorem dL_act_520 : decode cL_act 520 = .ok (.iconst 1, 1) := by decide +kernel
theorem dL_act_521 : decode cL_act 521 = .ok (.goto 4, 3) := by decide +kernel
theorem dL_act_524 : decode cL_act 524 = .ok (.iconst 0, 1) := by decide +kernel
theorem dL_act_525 : decode cL_act 525 = .ok (.ireturn, 1) := by decide +kernel
theorem dL_act_526 : decode cL_act 526 = .ok (.astore 8, 2) := by decide +kernel
theorem dL_act_528 : decode cL_act 528 = .ok (.iload 7, 2) := by decide +kernel
theorem dL_act_530 : decode cL_act 530 = .ok (.ifCond .eq 12, 3) := by decide +kernel
theorem dL_act_533 : decode cL_act 533 = .ok (.iload 6, 2) := by decide +kernel
theorem dL_act_535 : decode cL_act 535 = .ok (.ifCond .ne 7, 3) := by decide +kernel
theorem dL_act_538 : decode cL_act 538 = .ok (.iconst 1, 1) := by decide +kernel
theorem dL_act_539 : decode cL_act 539 = .ok (.goto 4, 3) := by decide +kernel
theorem dL_act_542 : decode cL_act 542 = .ok (.iconst 0, 1) := by decide +kernel
theorem dL_act_543 : decode cL_act 543 = .ok (.ireturn, 1) := by decide +kernel
theorem dL_build_0 : decode cL_build 0 = .ok (.new 10, 3) := by decide +kernel
theorem dL_build_3 : decode cL_build 3 = .ok (.dup, 1) := by decide +kernel
theorem dL_build_4 : decode cL_build 4 = .ok (.invokespecial 77, 3) := by decide +kernel
theorem dL_build_7 : decode cL_build 7 = .ok (.astore_n 2, 1) := by decide +kernel
theorem dL_build_8 : decode cL_build 8 = .ok (.bipush 12, 2) := by decide +kernel
theorem dL_build_10 : decode cL_build 10 = .ok (.aload_n 1, 1) := by decide +kernel
theorem dL_build_11 : decode cL_build 11 = .ok (.iconst 0, 1) := by decide +kernel
theorem dL_build_12 : decode cL_build 12 = .ok (.invokestatic 78, 3) := by decide +kernel
theorem dL_build_15 : decode cL_build 15 = .ok (.bipush 24, 2) := by decide +kernel
theorem dL_build_17 : decode cL_build 17 = .ok (.invokestatic 19, 3) := by decide +kernel
theorem dL_build_20 : decode cL_build 20 = .ok (.iadd, 1) := by decide +kernel
theorem dL_build_21 : decode cL_build 21 = .ok (.istore_n 3, 1) := by decide +kernel
theorem dL_build_22 : decode cL_build 22 = .ok (.iconst 0, 1) := by decide +kernel
theorem dL_build_23 : decode cL_build 23 = .ok (.istore 4, 2) := by decide +kernel
theorem dL_build_25 : decode cL_build 25 = .ok (.iload 4, 2) := by decide +kernel
theorem dL_build_27 : decode cL_build 27 = .ok (.iload_n 3, 1) := by decide +kernel
theorem dL_build_28 : decode cL_build 28 = .ok (.if_icmp .ge 95, 3) := by decide +kernel
theorem dL_build_31 : decode cL_build 31 = .ok (.aload_n 1, 1) := by decide +kernel
theorem dL_build_32 : decode cL_build 32 = .ok (.iconst 1, 1) := by decide +kernel
theorem dL_build_33 : decode cL_build 33 = .ok (.iload 4, 2) := by decide +kernel
theorem dL_build_35 : decode cL_build 35 = .ok (.bipush 15, 2) := by decide +kernel
theorem dL_build_37 : decode cL_build 37 = .ok (.irem, 1) := by decide +kernel
theorem dL_build_38 : decode cL_build 38 = .ok (.iadd, 1) := by decide +kernel
theorem dL_build_39 : decode cL_build 39 = .ok (.invokestatic 78, 3) := by decide +kernel
theorem dL_build_42 : decode cL_build 42 = .ok (.iload 4, 2) := by decide +kernel
theorem dL_build_44 : decode cL_build 44 = .ok (.bipush 15, 2) := by decide +kernel
theorem dL_build_46 : decode cL_build 46 = .ok (.idiv, 1) := by decide +kernel
theorem dL_build_47 : decode cL_build 47 = .ok (.iconst 3, 1) := by decide +kernel
theorem dL_build_48 : decode cL_build 48 = .ok (.imul, 1) := by decide +kernel
theorem dL_build_49 : decode cL_build 49 = .ok (.ishr, 1) := by decide +kernel
theorem dL_build_50 : decode cL_build 50 = .ok (.bipush 11, 2) := by decide +kernel
theorem dL_build_52 : decode cL_build 52 = .ok (.iload 4, 2) := by decide +kernel
theorem dL_build_54 : decode cL_build 54 = .ok (.imul, 1) := by decide +kernel
theorem dL_build_55 : decode cL_build 55 = .ok (.iadd, 1) := by decide +kernel
theorem dL_build_56 : decode cL_build 56 = .ok (.istore 5, 2) := by decide +kernel
theorem dL_build_58 : decode cL_build 58 = .ok (.aload_n 0, 1) := by decide +kernel
theorem dL_build_59 : decode cL_build 59 = .ok (.aload_n 2, 1) := by decide +kernel
theorem dL_build_60 : decode cL_build 60 = .ok (.iload 4, 2) := by decide +kernel
theorem dL_build_62 : decode cL_build 62 = .ok (.iconst 5, 1) := by decide +kernel
theorem dL_build_63 : decode cL_build 63 = .ok (.if_icmp .ge 21, 3) := by decide +kernel
theorem dL_build_66 : decode cL_build 66 = .ok (.iload 5, 2) := by decide +kernel
theorem dL_build_68 : decode cL_build 68 = .ok (.iload 5, 2) := by decide +kernel
theorem dL_build_70 : decode cL_build 70 = .ok (.bipush 16, 2) := by decide +kernel
theorem dL_build_72 : decode cL_build 72 = .ok (.invokestatic 19, 3) := by decide +kernel
theorem dL_build_75 : decode cL_build 75 = .ok (.isub, 1) := by decide +kernel
theorem dL_build_76 : decode cL_build 76 = .ok (.iload 4, 2) := by decide +kernel
theorem dL_build_78 : decode cL_build 78 = .ok (.iconst 2, 1) := by decide +kernel
theorem dL_build_79 : decode cL_build 79 = .ok (.irem, 1) := by decide +kernel
theorem dL_build_80 : decode cL_build 80 = .ok (.iadd, 1) := by decide +kernel
theorem dL_build_81 : decode cL_build 81 = .ok (.goto 28, 3) := by decide +kernel
theorem dL_build_84 : decode cL_build 84 = .ok (.iload 4, 2) := by decide +kernel
theorem dL_build_86 : decode cL_build 86 = .ok (.iconst 4, 1) := by decide +kernel
theorem dL_build_87 : decode cL_build 87 = .ok (.irem, 1) := by decide +kernel
theorem dL_build_88 : decode cL_build 88 = .ok (.iconst 3, 1) := by decide +kernel
theorem dL_build_89 : decode cL_build 89 = .ok (.if_icmp .ge 18, 3) := by decide +kernel
theorem dL_build_92 : decode cL_build 92 = .ok (.iload 5, 2) := by decide +kernel
theorem dL_build_94 : decode cL_build 94 = .ok (.iload 5, 2) := by decide +kernel
theorem dL_build_96 : decode cL_build 96 = .ok (.bipush 16, 2) := by decide +kernel
theorem dL_build_98 : decode cL_build 98 = .ok (.invokestatic 19, 3) := by decide +kernel
theorem dL_build_101 : decode cL_build 101 = .ok (.isub, 1) := by decide +kernel
theorem dL_build_102 : decode cL_build 102 = .ok (.iconst 2, 1) := by decide +kernel
theorem dL_build_103 : decode cL_build 103 = .ok (.iadd, 1) := by decide +kernel
theorem dL_build_104 : decode cL_build 104 = .ok (.goto 5, 3) := by decide +kernel
theorem dL_build_107 : decode cL_build 107 = .ok (.iload 5, 2) := by decide +kernel
theorem dL_build_109 : decode cL_build 109 = .ok (.invokestatic 82, 3) := by decide +kernel
theorem dL_build_112 : decode cL_build 112 = .ok (.ifCond .ne 5, 3) := by decide +kernel
theorem dL_build_115 : decode cL_build 115 = .ok (.aconst_null, 1) := by decide +kernel
theorem dL_build_116 : decode cL_build 116 = .ok (.areturn, 1) := by decide +kernel
theorem dL_build_117 : decode cL_build 117 = .ok (.iinc 4 1, 3) := by decide +kernel
theorem dL_build_120 : decode cL_build 120 = .ok (.goto (-95), 3) := by decide +kernel
theorem dL_build_123 : decode cL_build 123 = .ok (.aload_n 2, 1) := by decide +kernel
theorem dL_build_124 : decode cL_build 124 = .ok (.areturn, 1) := by decide +kernel
