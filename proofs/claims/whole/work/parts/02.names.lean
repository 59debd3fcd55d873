def RX0 : String := "WaterFibers$Channel"
def TX0 : u_T := fun k => match k with
  | 0 => ("WaterFibers$Channel", "places", "I", false)
  | 1 => ("WaterFibers$Channel", "drops", "LWaterFibers$Queue;", true)
  | 2 => ("WaterFibers$Channel", "senders", "LWaterFibers$Queue;", true)
  | _ => ("WaterFibers$Channel", "takers", "LWaterFibers$Queue;", true)
def tyX0 : Nat → FieldType := fun k => match k with
  | 0 => .int
  | 1 => .object "WaterFibers$Queue"
  | 2 => .object "WaterFibers$Queue"
  | _ => .object "WaterFibers$Queue"
abbrev wsX00 : List Cond := u_ws RX0 TX0 4
theorem nmX0 : ∀ a, a < 4 → ∀ b, b < 4 → a ≠ b → (TX0 a).2.1 ≠ (TX0 b).2.1 := by decide +kernel
theorem tyX0_ok : ∀ k, k < 4 → parseFieldDescriptor (TX0 k).2.2.1 = some (tyX0 k) := by decide +kernel
abbrev cX0_init : ByteArray := prog_2_method_1_code
def yX0_init : MethodName := ⟨RX0, "<init>", "()V"⟩
abbrev cX0_hasRoom : ByteArray := prog_2_method_2_code
def yX0_hasRoom : MethodName := ⟨RX0, "hasRoom", "()Z"⟩
abbrev cX0_becomeLike : ByteArray := prog_2_method_3_code
def yX0_becomeLike : MethodName := ⟨RX0, "becomeLike", "(LWaterFibers$Channel;)V"⟩
def RX1 : String := "WaterFibers$Clock"
def TX1 : u_T := fun k => match k with
  | 0 => ("WaterFibers$Clock", "channelRow", "[LWaterFibers$Channel;", true)
  | 1 => ("WaterFibers$Clock", "fiberRow", "[LWaterFibers$Fiber;", true)
  | 2 => ("WaterFibers$Clock", "noChannel", "LWaterFibers$Channel;", true)
  | 3 => ("WaterFibers$Clock", "noFiber", "LWaterFibers$Fiber;", true)
  | 4 => ("WaterFibers$Clock", "line", "LWaterFibers$Queue;", true)
  | 5 => ("WaterFibers$Clock", "channelCount", "I", false)
  | 6 => ("WaterFibers$Clock", "fiberCount", "I", false)
  | 7 => ("WaterFibers$Clock", "now", "I", false)
  | _ => ("WaterFibers$Clock", "idle", "I", false)
def tyX1 : Nat → FieldType := fun k => match k with
  | 0 => .array (.object "WaterFibers$Channel")
  | 1 => .array (.object "WaterFibers$Fiber")
  | 2 => .object "WaterFibers$Channel"
  | 3 => .object "WaterFibers$Fiber"
  | 4 => .object "WaterFibers$Queue"
  | 5 => .int
  | 6 => .int
  | 7 => .int
  | _ => .int
abbrev wsX10 : List Cond := u_ws RX1 TX1 9
theorem nmX1 : ∀ a, a < 9 → ∀ b, b < 9 → a ≠ b → (TX1 a).2.1 ≠ (TX1 b).2.1 := by decide +kernel
theorem tyX1_ok : ∀ k, k < 9 → parseFieldDescriptor (TX1 k).2.2.1 = some (tyX1 k) := by decide +kernel
abbrev cX1_init : ByteArray := prog_3_method_1_code
def yX1_init : MethodName := ⟨RX1, "<init>", "()V"⟩
abbrev cX1_channelAt : ByteArray := prog_3_method_2_code
def yX1_channelAt : MethodName := ⟨RX1, "channelAt", "(I)LWaterFibers$Channel;"⟩
abbrev cX1_fiberAt : ByteArray := prog_3_method_3_code
def yX1_fiberAt : MethodName := ⟨RX1, "fiberAt", "(I)LWaterFibers$Fiber;"⟩
abbrev cX1_becomeLike : ByteArray := prog_3_method_4_code
def yX1_becomeLike : MethodName := ⟨RX1, "becomeLike", "(LWaterFibers$Clock;)V"⟩
abbrev cX1_countDone : ByteArray := prog_3_method_5_code
def yX1_countDone : MethodName := ⟨RX1, "countDone", "()I"⟩
abbrev cX1_allAreDone : ByteArray := prog_3_method_6_code
def yX1_allAreDone : MethodName := ⟨RX1, "allAreDone", "()Z"⟩
abbrev cX1_hasStopped : ByteArray := prog_3_method_7_code
def yX1_hasStopped : MethodName := ⟨RX1, "hasStopped", "()Z"⟩
abbrev cX1_letTurnGoBy : ByteArray := prog_3_method_8_code
def yX1_letTurnGoBy : MethodName := ⟨RX1, "letTurnGoBy", "()V"⟩
abbrev cX1_makeReady : ByteArray := prog_3_method_9_code
def yX1_makeReady : MethodName := ⟨RX1, "makeReady", "(LWaterFibers$Fiber;)V"⟩
abbrev cX1_wakeFirst : ByteArray := prog_3_method_10_code
def yX1_wakeFirst : MethodName := ⟨RX1, "wakeFirst", "(LWaterFibers$Queue;)V"⟩
abbrev cX1_wakeSleepers : ByteArray := prog_3_method_11_code
def yX1_wakeSleepers : MethodName := ⟨RX1, "wakeSleepers", "()V"⟩
abbrev cX1_doStep : ByteArray := prog_3_method_12_code
def yX1_doStep : MethodName := ⟨RX1, "doStep", "(LWaterFibers$Fiber;)Z"⟩
abbrev cX1_send : ByteArray := prog_3_method_13_code
def yX1_send : MethodName := ⟨RX1, "send", "(LWaterFibers$Fiber;II)V"⟩
abbrev cX1_take : ByteArray := prog_3_method_14_code
def yX1_take : MethodName := ⟨RX1, "take", "(LWaterFibers$Fiber;I)V"⟩
abbrev cX1_waitFor : ByteArray := prog_3_method_15_code
def yX1_waitFor : MethodName := ⟨RX1, "waitFor", "(LWaterFibers$Fiber;I)V"⟩
abbrev cX1_endTurn : ByteArray := prog_3_method_16_code
def yX1_endTurn : MethodName := ⟨RX1, "endTurn", "(LWaterFibers$Fiber;)V"⟩
def RX2 : String := "WaterFibers$Fiber"
def TX2 : u_T := fun k => match k with
  | 0 => ("WaterFibers$Fiber", "number", "I", true)
  | 1 => ("WaterFibers$Fiber", "state", "I", false)
  | 2 => ("WaterFibers$Fiber", "place", "I", false)
  | 3 => ("WaterFibers$Fiber", "sum", "I", false)
  | 4 => ("WaterFibers$Fiber", "stepsBehind", "I", false)
  | 5 => ("WaterFibers$Fiber", "turnsHad", "I", false)
  | 6 => ("WaterFibers$Fiber", "wakesAt", "I", false)
  | 7 => ("WaterFibers$Fiber", "stepCount", "I", false)
  | 8 => ("WaterFibers$Fiber", "steps", "[LWaterFibers$Step;", true)
  | _ => ("WaterFibers$Fiber", "noStep", "LWaterFibers$Step;", true)
def tyX2 : Nat → FieldType := fun k => match k with
  | 0 => .int
  | 1 => .int
  | 2 => .int
  | 3 => .int
  | 4 => .int
  | 5 => .int
  | 6 => .int
  | 7 => .int
  | 8 => .array (.object "WaterFibers$Step")
  | _ => .object "WaterFibers$Step"
abbrev wsX20 : List Cond := u_ws RX2 TX2 10
theorem nmX2 : ∀ a, a < 10 → ∀ b, b < 10 → a ≠ b → (TX2 a).2.1 ≠ (TX2 b).2.1 := by decide +kernel
theorem tyX2_ok : ∀ k, k < 10 → parseFieldDescriptor (TX2 k).2.2.1 = some (tyX2 k) := by decide +kernel
abbrev cX2_init : ByteArray := prog_4_method_1_code
def yX2_init : MethodName := ⟨RX2, "<init>", "(I)V"⟩
abbrev cX2_stepAt : ByteArray := prog_4_method_2_code
def yX2_stepAt : MethodName := ⟨RX2, "stepAt", "(I)LWaterFibers$Step;"⟩
abbrev cX2_hasStepsLeft : ByteArray := prog_4_method_3_code
def yX2_hasStepsLeft : MethodName := ⟨RX2, "hasStepsLeft", "()Z"⟩
abbrev cX2_moveOn : ByteArray := prog_4_method_4_code
def yX2_moveOn : MethodName := ⟨RX2, "moveOn", "()V"⟩
abbrev cX2_goBack : ByteArray := prog_4_method_5_code
def yX2_goBack : MethodName := ⟨RX2, "goBack", "(LWaterFibers$Step;)V"⟩
abbrev cX2_becomeLike : ByteArray := prog_4_method_6_code
def yX2_becomeLike : MethodName := ⟨RX2, "becomeLike", "(LWaterFibers$Fiber;)V"⟩
def RX3 : String := "WaterFibers$Queue"
def TX3 : u_T := fun k => match k with
  | 0 => ("WaterFibers$Queue", "cells", "[I", true)
  | _ => ("WaterFibers$Queue", "size", "I", false)
def tyX3 : Nat → FieldType := fun k => match k with
  | 0 => .array .int
  | _ => .int
abbrev wsX30 : List Cond := u_ws RX3 TX3 2
theorem nmX3 : ∀ a, a < 2 → ∀ b, b < 2 → a ≠ b → (TX3 a).2.1 ≠ (TX3 b).2.1 := by decide +kernel
theorem tyX3_ok : ∀ k, k < 2 → parseFieldDescriptor (TX3 k).2.2.1 = some (tyX3 k) := by decide +kernel
abbrev cX3_init : ByteArray := prog_5_method_1_code
def yX3_init : MethodName := ⟨RX3, "<init>", "()V"⟩
abbrev cX3_look : ByteArray := prog_5_method_2_code
def yX3_look : MethodName := ⟨RX3, "look", "(I)I"⟩
abbrev cX3_find : ByteArray := prog_5_method_3_code
def yX3_find : MethodName := ⟨RX3, "find", "(I)I"⟩
abbrev cX3_addLast : ByteArray := prog_5_method_4_code
def yX3_addLast : MethodName := ⟨RX3, "addLast", "(I)V"⟩
abbrev cX3_takeFirst : ByteArray := prog_5_method_5_code
def yX3_takeFirst : MethodName := ⟨RX3, "takeFirst", "()I"⟩
abbrev cX3_becomeLike : ByteArray := prog_5_method_6_code
def yX3_becomeLike : MethodName := ⟨RX3, "becomeLike", "(LWaterFibers$Queue;)V"⟩
def RX4 : String := "WaterFibers$Step"
def TX4 : u_T := fun k => match k with
  | 0 => ("WaterFibers$Step", "kind", "I", false)
  | 1 => ("WaterFibers$Step", "one", "I", false)
  | 2 => ("WaterFibers$Step", "two", "I", false)
  | _ => ("WaterFibers$Step", "backs", "I", false)
def tyX4 : Nat → FieldType := fun k => match k with
  | 0 => .int
  | 1 => .int
  | 2 => .int
  | _ => .int
abbrev wsX40 : List Cond := u_ws RX4 TX4 4
theorem nmX4 : ∀ a, a < 4 → ∀ b, b < 4 → a ≠ b → (TX4 a).2.1 ≠ (TX4 b).2.1 := by decide +kernel
theorem tyX4_ok : ∀ k, k < 4 → parseFieldDescriptor (TX4 k).2.2.1 = some (tyX4 k) := by decide +kernel
abbrev cX4_init : ByteArray := prog_6_method_1_code
def yX4_init : MethodName := ⟨RX4, "<init>", "()V"⟩
abbrev cX4_describe : ByteArray := prog_6_method_2_code
def yX4_describe : MethodName := ⟨RX4, "describe", "(III)V"⟩
abbrev cX4_becomeLike : ByteArray := prog_6_method_3_code
def yX4_becomeLike : MethodName := ⟨RX4, "becomeLike", "(LWaterFibers$Step;)V"⟩
def RX5 : String := "WaterFibers"
def TX5 : u_T := fun k => match k with
  | 0 => ("WaterFibers", "real", "LWaterFibers$Clock;", true)
  | _ => ("WaterFibers", "trial", "LWaterFibers$Clock;", true)
def tyX5 : Nat → FieldType := fun k => match k with
  | 0 => .object "WaterFibers$Clock"
  | _ => .object "WaterFibers$Clock"
abbrev wsX50 : List Cond := u_ws RX5 TX5 2
theorem nmX5 : ∀ a, a < 2 → ∀ b, b < 2 → a ≠ b → (TX5 a).2.1 ≠ (TX5 b).2.1 := by decide +kernel
theorem tyX5_ok : ∀ k, k < 2 → parseFieldDescriptor (TX5 k).2.2.1 = some (tyX5 k) := by decide +kernel
abbrev cX5_init : ByteArray := prog_1_method_1_code
def yX5_init : MethodName := ⟨RX5, "<init>", "()V"⟩
abbrev cX5_addChannel : ByteArray := prog_1_method_2_code
def yX5_addChannel : MethodName := ⟨RX5, "addChannel", "(I)I"⟩
abbrev cX5_addFiber : ByteArray := prog_1_method_3_code
def yX5_addFiber : MethodName := ⟨RX5, "addFiber", "()I"⟩
abbrev cX5_addStep : ByteArray := prog_1_method_4_code
def yX5_addStep : MethodName := ⟨RX5, "addStep", "(IIII)I"⟩
abbrev cX5_pour : ByteArray := prog_1_method_5_code
def yX5_pour : MethodName := ⟨RX5, "pour", "(II)I"⟩
abbrev cX5_run : ByteArray := prog_1_method_6_code
def yX5_run : MethodName := ⟨RX5, "run", "(I)I"⟩
abbrev cX5_time : ByteArray := prog_1_method_7_code
def yX5_time : MethodName := ⟨RX5, "time", "()I"⟩
abbrev cX5_channels : ByteArray := prog_1_method_8_code
def yX5_channels : MethodName := ⟨RX5, "channels", "()I"⟩
abbrev cX5_fibers : ByteArray := prog_1_method_9_code
def yX5_fibers : MethodName := ⟨RX5, "fibers", "()I"⟩
abbrev cX5_done : ByteArray := prog_1_method_10_code
def yX5_done : MethodName := ⟨RX5, "done", "()I"⟩
abbrev cX5_idleTurns : ByteArray := prog_1_method_11_code
def yX5_idleTurns : MethodName := ⟨RX5, "idleTurns", "()I"⟩
abbrev cX5_next : ByteArray := prog_1_method_12_code
def yX5_next : MethodName := ⟨RX5, "next", "()I"⟩
abbrev cX5_isStuck : ByteArray := prog_1_method_13_code
def yX5_isStuck : MethodName := ⟨RX5, "isStuck", "()Z"⟩
abbrev cX5_held : ByteArray := prog_1_method_14_code
def yX5_held : MethodName := ⟨RX5, "held", "(I)I"⟩
abbrev cX5_valueAt : ByteArray := prog_1_method_15_code
def yX5_valueAt : MethodName := ⟨RX5, "valueAt", "(II)I"⟩
abbrev cX5_sendersAt : ByteArray := prog_1_method_16_code
def yX5_sendersAt : MethodName := ⟨RX5, "sendersAt", "(I)I"⟩
abbrev cX5_takersAt : ByteArray := prog_1_method_17_code
def yX5_takersAt : MethodName := ⟨RX5, "takersAt", "(I)I"⟩
abbrev cX5_stateOf : ByteArray := prog_1_method_18_code
def yX5_stateOf : MethodName := ⟨RX5, "stateOf", "(I)I"⟩
abbrev cX5_placeOf : ByteArray := prog_1_method_19_code
def yX5_placeOf : MethodName := ⟨RX5, "placeOf", "(I)I"⟩
abbrev cX5_sumOf : ByteArray := prog_1_method_20_code
def yX5_sumOf : MethodName := ⟨RX5, "sumOf", "(I)I"⟩
abbrev cX5_stepsDone : ByteArray := prog_1_method_21_code
def yX5_stepsDone : MethodName := ⟨RX5, "stepsDone", "(I)I"⟩
abbrev cX5_turnsOf : ByteArray := prog_1_method_22_code
def yX5_turnsOf : MethodName := ⟨RX5, "turnsOf", "(I)I"⟩
abbrev cX5_placeInLine : ByteArray := prog_1_method_23_code
def yX5_placeInLine : MethodName := ⟨RX5, "placeInLine", "(I)I"⟩
abbrev cX5_turnsUntilDone : ByteArray := prog_1_method_24_code
def yX5_turnsUntilDone : MethodName := ⟨RX5, "turnsUntilDone", "(I)I"⟩
abbrev cX5_turnsUntilStuck : ByteArray := prog_1_method_25_code
def yX5_turnsUntilStuck : MethodName := ⟨RX5, "turnsUntilStuck", "()I"⟩
abbrev cX5_sumIn : ByteArray := prog_1_method_26_code
def yX5_sumIn : MethodName := ⟨RX5, "sumIn", "(II)I"⟩
abbrev cX5_placesWanted : ByteArray := prog_1_method_27_code
def yX5_placesWanted : MethodName := ⟨RX5, "placesWanted", "(I)I"⟩
abbrev cX5_meanTurns : ByteArray := prog_1_method_28_code
def yX5_meanTurns : MethodName := ⟨RX5, "meanTurns", "()D"⟩
abbrev cX5_digest : ByteArray := prog_1_method_29_code
def yX5_digest : MethodName := ⟨RX5, "digest", "()J"⟩
abbrev cX5_checkChannel : ByteArray := prog_1_method_30_code
def yX5_checkChannel : MethodName := ⟨RX5, "checkChannel", "(I)V"⟩
abbrev cX5_checkFiber : ByteArray := prog_1_method_31_code
def yX5_checkFiber : MethodName := ⟨RX5, "checkFiber", "(I)V"⟩
abbrev cX5_checkTurns : ByteArray := prog_1_method_32_code
def yX5_checkTurns : MethodName := ⟨RX5, "checkTurns", "(I)V"⟩
abbrev cX5_isChannel : ByteArray := prog_1_method_33_code
def yX5_isChannel : MethodName := ⟨RX5, "isChannel", "(I)Z"⟩
abbrev cX5_isFiber : ByteArray := prog_1_method_34_code
def yX5_isFiber : MethodName := ⟨RX5, "isFiber", "(I)Z"⟩
abbrev cX5_isValue : ByteArray := prog_1_method_35_code
def yX5_isValue : MethodName := ⟨RX5, "isValue", "(I)Z"⟩
abbrev cX5_isStep : ByteArray := prog_1_method_36_code
def yX5_isStep : MethodName := ⟨RX5, "isStep", "(IIII)Z"⟩
def RX6 : String := "WaterFibersModel"
def TX6 : u_T := fun k => match k with
  | 0 => ("WaterFibersModel", "thrown", "I", false)
  | 1 => ("WaterFibersModel", "channels", "I", false)
  | 2 => ("WaterFibersModel", "fibers", "I", false)
  | 3 => ("WaterFibersModel", "steps", "[I", true)
  | 4 => ("WaterFibersModel", "kind", "[I", true)
  | 5 => ("WaterFibersModel", "one", "[I", true)
  | 6 => ("WaterFibersModel", "two", "[I", true)
  | 7 => ("WaterFibersModel", "now", "[I", true)
  | _ => ("WaterFibersModel", "kept", "[I", true)
def tyX6 : Nat → FieldType := fun k => match k with
  | 0 => .int
  | 1 => .int
  | 2 => .int
  | 3 => .array .int
  | 4 => .array .int
  | 5 => .array .int
  | 6 => .array .int
  | 7 => .array .int
  | _ => .array .int
abbrev wsX60 : List Cond := u_ws RX6 TX6 9
theorem nmX6 : ∀ a, a < 9 → ∀ b, b < 9 → a ≠ b → (TX6 a).2.1 ≠ (TX6 b).2.1 := by decide +kernel
theorem tyX6_ok : ∀ k, k < 9 → parseFieldDescriptor (TX6 k).2.2.1 = some (tyX6 k) := by decide +kernel
abbrev cX6_init : ByteArray := prog_8_method_1_code
def yX6_init : MethodName := ⟨RX6, "<init>", "()V"⟩
abbrev cX6_thrown : ByteArray := prog_8_method_2_code
def yX6_thrown : MethodName := ⟨RX6, "thrown", "()I"⟩
abbrev cX6_no : ByteArray := prog_8_method_3_code
def yX6_no : MethodName := ⟨RX6, "no", "(I)I"⟩
abbrev cX6_ok : ByteArray := prog_8_method_4_code
def yX6_ok : MethodName := ⟨RX6, "ok", "(I)I"⟩
abbrev cX6_isFrom : ByteArray := prog_8_method_5_code
def yX6_isFrom : MethodName := ⟨RX6, "isFrom", "(III)Z"⟩
abbrev cX6_isChannel : ByteArray := prog_8_method_6_code
def yX6_isChannel : MethodName := ⟨RX6, "isChannel", "(I)Z"⟩
abbrev cX6_isFiber : ByteArray := prog_8_method_7_code
def yX6_isFiber : MethodName := ⟨RX6, "isFiber", "(I)Z"⟩
abbrev cX6_keep : ByteArray := prog_8_method_8_code
def yX6_keep : MethodName := ⟨RX6, "keep", "()V"⟩
abbrev cX6_bringBack : ByteArray := prog_8_method_9_code
def yX6_bringBack : MethodName := ⟨RX6, "bringBack", "()V"⟩
abbrev cX6_ready : ByteArray := prog_8_method_10_code
def yX6_ready : MethodName := ⟨RX6, "ready", "(I)V"⟩
abbrev cX6_wake : ByteArray := prog_8_method_11_code
def yX6_wake : MethodName := ⟨RX6, "wake", "(II)V"⟩
abbrev cX6_waits : ByteArray := prog_8_method_12_code
def yX6_waits : MethodName := ⟨RX6, "waits", "(III)Z"⟩
abbrev cX6_send : ByteArray := prog_8_method_13_code
def yX6_send : MethodName := ⟨RX6, "send", "(II)V"⟩
abbrev cX6_take : ByteArray := prog_8_method_14_code
def yX6_take : MethodName := ⟨RX6, "take", "(I)I"⟩
abbrev cX6_waitIn : ByteArray := prog_8_method_15_code
def yX6_waitIn : MethodName := ⟨RX6, "waitIn", "(II)V"⟩
abbrev cX6_isDone : ByteArray := prog_8_method_16_code
def yX6_isDone : MethodName := ⟨RX6, "isDone", "(I)Z"⟩
abbrev cX6_done : ByteArray := prog_8_method_17_code
def yX6_done : MethodName := ⟨RX6, "done", "(I)V"⟩
abbrev cX6_go : ByteArray := prog_8_method_18_code
def yX6_go : MethodName := ⟨RX6, "go", "(I)V"⟩
abbrev cX6_turnOn : ByteArray := prog_8_method_19_code
def yX6_turnOn : MethodName := ⟨RX6, "turnOn", "()V"⟩
abbrev cX6_addChannel : ByteArray := prog_8_method_20_code
def yX6_addChannel : MethodName := ⟨RX6, "addChannel", "(I)I"⟩
abbrev cX6_addFiber : ByteArray := prog_8_method_21_code
def yX6_addFiber : MethodName := ⟨RX6, "addFiber", "()I"⟩
abbrev cX6_isStep : ByteArray := prog_8_method_22_code
def yX6_isStep : MethodName := ⟨RX6, "isStep", "(IIII)Z"⟩
abbrev cX6_addStep : ByteArray := prog_8_method_23_code
def yX6_addStep : MethodName := ⟨RX6, "addStep", "(IIII)I"⟩
abbrev cX6_pour : ByteArray := prog_8_method_24_code
def yX6_pour : MethodName := ⟨RX6, "pour", "(II)I"⟩
abbrev cX6_run : ByteArray := prog_8_method_25_code
def yX6_run : MethodName := ⟨RX6, "run", "(I)I"⟩
abbrev cX6_time : ByteArray := prog_8_method_26_code
def yX6_time : MethodName := ⟨RX6, "time", "()I"⟩
abbrev cX6_channels : ByteArray := prog_8_method_27_code
def yX6_channels : MethodName := ⟨RX6, "channels", "()I"⟩
abbrev cX6_fibers : ByteArray := prog_8_method_28_code
def yX6_fibers : MethodName := ⟨RX6, "fibers", "()I"⟩
abbrev cX6_inState : ByteArray := prog_8_method_29_code
def yX6_inState : MethodName := ⟨RX6, "inState", "(I)I"⟩
abbrev cX6_done_ : ByteArray := prog_8_method_30_code
def yX6_done_ : MethodName := ⟨RX6, "done", "()I"⟩
abbrev cX6_idleTurns : ByteArray := prog_8_method_31_code
def yX6_idleTurns : MethodName := ⟨RX6, "idleTurns", "()I"⟩
abbrev cX6_first : ByteArray := prog_8_method_32_code
def yX6_first : MethodName := ⟨RX6, "first", "()I"⟩
abbrev cX6_next : ByteArray := prog_8_method_33_code
def yX6_next : MethodName := ⟨RX6, "next", "()I"⟩
abbrev cX6_stuck : ByteArray := prog_8_method_34_code
def yX6_stuck : MethodName := ⟨RX6, "stuck", "()Z"⟩
abbrev cX6_isStuck : ByteArray := prog_8_method_35_code
def yX6_isStuck : MethodName := ⟨RX6, "isStuck", "()Z"⟩
abbrev cX6_heldIn : ByteArray := prog_8_method_36_code
def yX6_heldIn : MethodName := ⟨RX6, "heldIn", "(I)I"⟩
abbrev cX6_held : ByteArray := prog_8_method_37_code
def yX6_held : MethodName := ⟨RX6, "held", "(I)I"⟩
abbrev cX6_valueAt : ByteArray := prog_8_method_38_code
def yX6_valueAt : MethodName := ⟨RX6, "valueAt", "(II)I"⟩
abbrev cX6_waiting : ByteArray := prog_8_method_39_code
def yX6_waiting : MethodName := ⟨RX6, "waiting", "(II)I"⟩
abbrev cX6_sendersAt : ByteArray := prog_8_method_40_code
def yX6_sendersAt : MethodName := ⟨RX6, "sendersAt", "(I)I"⟩
abbrev cX6_takersAt : ByteArray := prog_8_method_41_code
def yX6_takersAt : MethodName := ⟨RX6, "takersAt", "(I)I"⟩
abbrev cX6_ofFiber : ByteArray := prog_8_method_42_code
def yX6_ofFiber : MethodName := ⟨RX6, "ofFiber", "(II)I"⟩
abbrev cX6_stateOf : ByteArray := prog_8_method_43_code
def yX6_stateOf : MethodName := ⟨RX6, "stateOf", "(I)I"⟩
abbrev cX6_placeOf : ByteArray := prog_8_method_44_code
def yX6_placeOf : MethodName := ⟨RX6, "placeOf", "(I)I"⟩
abbrev cX6_sumOf : ByteArray := prog_8_method_45_code
def yX6_sumOf : MethodName := ⟨RX6, "sumOf", "(I)I"⟩
abbrev cX6_stepsDone : ByteArray := prog_8_method_46_code
def yX6_stepsDone : MethodName := ⟨RX6, "stepsDone", "(I)I"⟩
abbrev cX6_turnsOf : ByteArray := prog_8_method_47_code
def yX6_turnsOf : MethodName := ⟨RX6, "turnsOf", "(I)I"⟩
abbrev cX6_inLine : ByteArray := prog_8_method_48_code
def yX6_inLine : MethodName := ⟨RX6, "inLine", "(I)I"⟩
abbrev cX6_placeInLine : ByteArray := prog_8_method_49_code
def yX6_placeInLine : MethodName := ⟨RX6, "placeInLine", "(I)I"⟩
abbrev cX6_untilDone : ByteArray := prog_8_method_50_code
def yX6_untilDone : MethodName := ⟨RX6, "untilDone", "(I)I"⟩
abbrev cX6_turnsUntilDone : ByteArray := prog_8_method_51_code
def yX6_turnsUntilDone : MethodName := ⟨RX6, "turnsUntilDone", "(I)I"⟩
abbrev cX6_untilStuck : ByteArray := prog_8_method_52_code
def yX6_untilStuck : MethodName := ⟨RX6, "untilStuck", "()I"⟩
abbrev cX6_turnsUntilStuck : ByteArray := prog_8_method_53_code
def yX6_turnsUntilStuck : MethodName := ⟨RX6, "turnsUntilStuck", "()I"⟩
abbrev cX6_sumIn : ByteArray := prog_8_method_54_code
def yX6_sumIn : MethodName := ⟨RX6, "sumIn", "(II)I"⟩
abbrev cX6_roomFor : ByteArray := prog_8_method_55_code
def yX6_roomFor : MethodName := ⟨RX6, "roomFor", "(I)I"⟩
abbrev cX6_placesWanted : ByteArray := prog_8_method_56_code
def yX6_placesWanted : MethodName := ⟨RX6, "placesWanted", "(I)I"⟩
abbrev cX6_meanTurns : ByteArray := prog_8_method_57_code
def yX6_meanTurns : MethodName := ⟨RX6, "meanTurns", "()D"⟩
abbrev cX6_digest : ByteArray := prog_8_method_58_code
def yX6_digest : MethodName := ⟨RX6, "digest", "()J"⟩
def RL : String := "WaterFibersLaw"
abbrev cL_addChannel : ByteArray := method_3_code
def yL_addChannel : MethodName := ⟨RL, "addChannel", "(LWaterFibers;I[J)I"⟩
abbrev cL_addFiber : ByteArray := method_4_code
def yL_addFiber : MethodName := ⟨RL, "addFiber", "(LWaterFibers;[J)I"⟩
abbrev cL_addStep : ByteArray := method_5_code
def yL_addStep : MethodName := ⟨RL, "addStep", "(LWaterFibers;IIII[J)I"⟩
abbrev cL_pour : ByteArray := method_6_code
def yL_pour : MethodName := ⟨RL, "pour", "(LWaterFibers;II[J)I"⟩
abbrev cL_run : ByteArray := method_7_code
def yL_run : MethodName := ⟨RL, "run", "(LWaterFibers;I[J)I"⟩
abbrev cL_held : ByteArray := method_8_code
def yL_held : MethodName := ⟨RL, "held", "(LWaterFibers;I[J)I"⟩
abbrev cL_valueAt : ByteArray := method_9_code
def yL_valueAt : MethodName := ⟨RL, "valueAt", "(LWaterFibers;II[J)I"⟩
abbrev cL_sendersAt : ByteArray := method_10_code
def yL_sendersAt : MethodName := ⟨RL, "sendersAt", "(LWaterFibers;I[J)I"⟩
abbrev cL_takersAt : ByteArray := method_11_code
def yL_takersAt : MethodName := ⟨RL, "takersAt", "(LWaterFibers;I[J)I"⟩
abbrev cL_stateOf : ByteArray := method_12_code
def yL_stateOf : MethodName := ⟨RL, "stateOf", "(LWaterFibers;I[J)I"⟩
abbrev cL_placeOf : ByteArray := method_13_code
def yL_placeOf : MethodName := ⟨RL, "placeOf", "(LWaterFibers;I[J)I"⟩
abbrev cL_sumOf : ByteArray := method_14_code
def yL_sumOf : MethodName := ⟨RL, "sumOf", "(LWaterFibers;I[J)I"⟩
abbrev cL_stepsDone : ByteArray := method_15_code
def yL_stepsDone : MethodName := ⟨RL, "stepsDone", "(LWaterFibers;I[J)I"⟩
abbrev cL_turnsOf : ByteArray := method_16_code
def yL_turnsOf : MethodName := ⟨RL, "turnsOf", "(LWaterFibers;I[J)I"⟩
abbrev cL_placeInLine : ByteArray := method_17_code
def yL_placeInLine : MethodName := ⟨RL, "placeInLine", "(LWaterFibers;I[J)I"⟩
abbrev cL_turnsUntilDone : ByteArray := method_18_code
def yL_turnsUntilDone : MethodName := ⟨RL, "turnsUntilDone", "(LWaterFibers;I[J)I"⟩
abbrev cL_sumIn : ByteArray := method_19_code
def yL_sumIn : MethodName := ⟨RL, "sumIn", "(LWaterFibers;II[J)I"⟩
abbrev cL_placesWanted : ByteArray := method_20_code
def yL_placesWanted : MethodName := ⟨RL, "placesWanted", "(LWaterFibers;I[J)I"⟩
abbrev cL_law : ByteArray := code
def yL_law : MethodName := ⟨RL, "law", "([I)Z"⟩
abbrev vwCl : List vw_C := [(RX0, TX0, 4), (RX1, TX1, 9), (RX2, TX2, 10), (RX3, TX3, 2), (RX4, TX4, 4), (RX5, TX5, 2), (RX6, TX6, 9)]
theorem dX0_init_0 : decode cX0_init 0 = .ok (.aload_n 0, 1) := by decide +kernel
theorem dX0_init_1 : decode cX0_init 1 = .ok (.invokespecial 1, 3) := by decide +kernel
theorem dX0_init_4 : decode cX0_init 4 = .ok (.aload_n 0, 1) := by decide +kernel
theorem dX0_init_5 : decode cX0_init 5 = .ok (.new 7, 3) := by decide +kernel
theorem dX0_init_8 : decode cX0_init 8 = .ok (.dup, 1) := by decide +kernel
theorem dX0_init_9 : decode cX0_init 9 = .ok (.invokespecial 9, 3) := by decide +kernel
theorem dX0_init_12 : decode cX0_init 12 = .ok (.putfield 10, 3) := by decide +kernel
theorem dX0_init_15 : decode cX0_init 15 = .ok (.aload_n 0, 1) := by decide +kernel
theorem dX0_init_16 : decode cX0_init 16 = .ok (.new 7, 3) := by decide +kernel
theorem dX0_init_19 : decode cX0_init 19 = .ok (.dup, 1) := by decide +kernel
theorem dX0_init_20 : decode cX0_init 20 = .ok (.invokespecial 9, 3) := by decide +kernel
theorem dX0_init_23 : decode cX0_init 23 = .ok (.putfield 16, 3) := by decide +kernel
theorem dX0_init_26 : decode cX0_init 26 = .ok (.aload_n 0, 1) := by decide +kernel
theorem dX0_init_27 : decode cX0_init 27 = .ok (.new 7, 3) := by decide +kernel
theorem dX0_init_30 : decode cX0_init 30 = .ok (.dup, 1) := by decide +kernel
theorem dX0_init_31 : decode cX0_init 31 = .ok (.invokespecial 9, 3) := by decide +kernel
theorem dX0_init_34 : decode cX0_init 34 = .ok (.putfield 19, 3) := by decide +kernel
theorem dX0_init_37 : decode cX0_init 37 = .ok (.return_, 1) := by decide +kernel
theorem dX0_hasRoom_0 : decode cX0_hasRoom 0 = .ok (.aload_n 0, 1) := by decide +kernel
theorem dX0_hasRoom_1 : decode cX0_hasRoom 1 = .ok (.getfield 10, 3) := by decide +kernel
theorem dX0_hasRoom_4 : decode cX0_hasRoom 4 = .ok (.getfield 22, 3) := by decide +kernel
theorem dX0_hasRoom_7 : decode cX0_hasRoom 7 = .ok (.aload_n 0, 1) := by decide +kernel
theorem dX0_hasRoom_8 : decode cX0_hasRoom 8 = .ok (.getfield 26, 3) := by decide +kernel
theorem dX0_hasRoom_11 : decode cX0_hasRoom 11 = .ok (.if_icmp .ge 7, 3) := by decide +kernel
theorem dX0_hasRoom_14 : decode cX0_hasRoom 14 = .ok (.iconst 1, 1) := by decide +kernel
theorem dX0_hasRoom_15 : decode cX0_hasRoom 15 = .ok (.goto 4, 3) := by decide +kernel
theorem dX0_hasRoom_18 : decode cX0_hasRoom 18 = .ok (.iconst 0, 1) := by decide +kernel
theorem dX0_hasRoom_19 : decode cX0_hasRoom 19 = .ok (.ireturn, 1) := by decide +kernel
theorem dX0_becomeLike_0 : decode cX0_becomeLike 0 = .ok (.aload_n 0, 1) := by decide +kernel
theorem dX0_becomeLike_1 : decode cX0_becomeLike 1 = .ok (.aload_n 1, 1) := by decide +kernel
theorem dX0_becomeLike_2 : decode cX0_becomeLike 2 = .ok (.getfield 26, 3) := by decide +kernel
theorem dX0_becomeLike_5 : decode cX0_becomeLike 5 = .ok (.putfield 26, 3) := by decide +kernel
theorem dX0_becomeLike_8 : decode cX0_becomeLike 8 = .ok (.aload_n 0, 1) := by decide +kernel
theorem dX0_becomeLike_9 : decode cX0_becomeLike 9 = .ok (.getfield 10, 3) := by decide +kernel
theorem dX0_becomeLike_12 : decode cX0_becomeLike 12 = .ok (.aload_n 1, 1) := by decide +kernel
theorem dX0_becomeLike_13 : decode cX0_becomeLike 13 = .ok (.getfield 10, 3) := by decide +kernel
theorem dX0_becomeLike_16 : decode cX0_becomeLike 16 = .ok (.invokevirtual 29, 3) := by decide +kernel
theorem dX0_becomeLike_19 : decode cX0_becomeLike 19 = .ok (.aload_n 0, 1) := by decide +kernel
theorem dX0_becomeLike_20 : decode cX0_becomeLike 20 = .ok (.getfield 16, 3) := by decide +kernel
theorem dX0_becomeLike_23 : decode cX0_becomeLike 23 = .ok (.aload_n 1, 1) := by decide +kernel
theorem dX0_becomeLike_24 : decode cX0_becomeLike 24 = .ok (.getfield 16, 3) := by decide +kernel
theorem dX0_becomeLike_27 : decode cX0_becomeLike 27 = .ok (.invokevirtual 29, 3) := by decide +kernel
theorem dX0_becomeLike_30 : decode cX0_becomeLike 30 = .ok (.aload_n 0, 1) := by decide +kernel
theorem dX0_becomeLike_31 : decode cX0_becomeLike 31 = .ok (.getfield 19, 3) := by decide +kernel
theorem dX0_becomeLike_34 : decode cX0_becomeLike 34 = .ok (.aload_n 1, 1) := by decide +kernel
theorem dX0_becomeLike_35 : decode cX0_becomeLike 35 = .ok (.getfield 19, 3) := by decide +kernel
theorem dX0_becomeLike_38 : decode cX0_becomeLike 38 = .ok (.invokevirtual 29, 3) := by decide +kernel
theorem dX0_becomeLike_41 : decode cX0_becomeLike 41 = .ok (.return_, 1) := by decide +kernel
theorem dX1_init_0 : decode cX1_init 0 = .ok (.aload_n 0, 1) := by decide +kernel
theorem dX1_init_1 : decode cX1_init 1 = .ok (.invokespecial 3, 3) := by decide +kernel
theorem dX1_init_4 : decode cX1_init 4 = .ok (.aload_n 0, 1) := by decide +kernel
theorem dX1_init_5 : decode cX1_init 5 = .ok (.iconst 4, 1) := by decide +kernel
theorem dX1_init_6 : decode cX1_init 6 = .ok (.anewarray 9, 3) := by decide +kernel
theorem dX1_init_9 : decode cX1_init 9 = .ok (.putfield 11, 3) := by decide +kernel
theorem dX1_init_12 : decode cX1_init 12 = .ok (.aload_n 0, 1) := by decide +kernel
theorem dX1_init_13 : decode cX1_init 13 = .ok (.bipush 8, 2) := by decide +kernel
theorem dX1_init_15 : decode cX1_init 15 = .ok (.anewarray 17, 3) := by decide +kernel
theorem dX1_init_18 : decode cX1_init 18 = .ok (.putfield 19, 3) := by decide +kernel
theorem dX1_init_21 : decode cX1_init 21 = .ok (.aload_n 0, 1) := by decide +kernel
theorem dX1_init_22 : decode cX1_init 22 = .ok (.new 9, 3) := by decide +kernel
theorem dX1_init_25 : decode cX1_init 25 = .ok (.dup, 1) := by decide +kernel
theorem dX1_init_26 : decode cX1_init 26 = .ok (.invokespecial 23, 3) := by decide +kernel
theorem dX1_init_29 : decode cX1_init 29 = .ok (.putfield 24, 3) := by decide +kernel
theorem dX1_init_32 : decode cX1_init 32 = .ok (.aload_n 0, 1) := by decide +kernel
theorem dX1_init_33 : decode cX1_init 33 = .ok (.new 17, 3) := by decide +kernel
theorem dX1_init_36 : decode cX1_init 36 = .ok (.dup, 1) := by decide +kernel
theorem dX1_init_37 : decode cX1_init 37 = .ok (.iconst (-1), 1) := by decide +kernel
theorem dX1_init_38 : decode cX1_init 38 = .ok (.invokespecial 28, 3) := by decide +kernel
theorem dX1_init_41 : decode cX1_init 41 = .ok (.putfield 31, 3) := by decide +kernel
theorem dX1_init_44 : decode cX1_init 44 = .ok (.aload_n 0, 1) := by decide +kernel
theorem dX1_init_45 : decode cX1_init 45 = .ok (.new 35, 3) := by decide +kernel
theorem dX1_init_48 : decode cX1_init 48 = .ok (.dup, 1) := by decide +kernel
theorem dX1_init_49 : decode cX1_init 49 = .ok (.invokespecial 37, 3) := by decide +kernel
theorem dX1_init_52 : decode cX1_init 52 = .ok (.putfield 38, 3) := by decide +kernel
theorem dX1_init_55 : decode cX1_init 55 = .ok (.iconst 0, 1) := by decide +kernel
theorem dX1_init_56 : decode cX1_init 56 = .ok (.istore_n 1, 1) := by decide +kernel
theorem dX1_init_57 : decode cX1_init 57 = .ok (.iload_n 1, 1) := by decide +kernel
theorem dX1_init_58 : decode cX1_init 58 = .ok (.aload_n 0, 1) := by decide +kernel
theorem dX1_init_59 : decode cX1_init 59 = .ok (.getfield 11, 3) := by decide +kernel
theorem dX1_init_62 : decode cX1_init 62 = .ok (.arraylength, 1) := by decide +kernel
theorem dX1_init_63 : decode cX1_init 63 = .ok (.if_icmp .ge 22, 3) := by decide +kernel
theorem dX1_init_66 : decode cX1_init 66 = .ok (.aload_n 0, 1) := by decide +kernel
theorem dX1_init_67 : decode cX1_init 67 = .ok (.getfield 11, 3) := by decide +kernel
theorem dX1_init_70 : decode cX1_init 70 = .ok (.iload_n 1, 1) := by decide +kernel
theorem dX1_init_71 : decode cX1_init 71 = .ok (.new 9, 3) := by decide +kernel
theorem dX1_init_74 : decode cX1_init 74 = .ok (.dup, 1) := by decide +kernel
theorem dX1_init_75 : decode cX1_init 75 = .ok (.invokespecial 23, 3) := by decide +kernel
theorem dX1_init_78 : decode cX1_init 78 = .ok (.aastore, 1) := by decide +kernel
theorem dX1_init_79 : decode cX1_init 79 = .ok (.iinc 1 1, 3) := by decide +kernel
theorem dX1_init_82 : decode cX1_init 82 = .ok (.goto (-25), 3) := by decide +kernel
theorem dX1_init_85 : decode cX1_init 85 = .ok (.iconst 0, 1) := by decide +kernel
theorem dX1_init_86 : decode cX1_init 86 = .ok (.istore_n 1, 1) := by decide +kernel
theorem dX1_init_87 : decode cX1_init 87 = .ok (.iload_n 1, 1) := by decide +kernel
theorem dX1_init_88 : decode cX1_init 88 = .ok (.aload_n 0, 1) := by decide +kernel
theorem dX1_init_89 : decode cX1_init 89 = .ok (.getfield 19, 3) := by decide +kernel
theorem dX1_init_92 : decode cX1_init 92 = .ok (.arraylength, 1) := by decide +kernel
theorem dX1_init_93 : decode cX1_init 93 = .ok (.if_icmp .ge 23, 3) := by decide +kernel
theorem dX1_init_96 : decode cX1_init 96 = .ok (.aload_n 0, 1) := by decide +kernel
theorem dX1_init_97 : decode cX1_init 97 = .ok (.getfield 19, 3) := by decide +kernel
theorem dX1_init_100 : decode cX1_init 100 = .ok (.iload_n 1, 1) := by decide +kernel
theorem dX1_init_101 : decode cX1_init 101 = .ok (.new 17, 3) := by decide +kernel
theorem dX1_init_104 : decode cX1_init 104 = .ok (.dup, 1) := by decide +kernel
theorem dX1_init_105 : decode cX1_init 105 = .ok (.iload_n 1, 1) := by decide +kernel
theorem dX1_init_106 : decode cX1_init 106 = .ok (.invokespecial 28, 3) := by decide +kernel
theorem dX1_init_109 : decode cX1_init 109 = .ok (.aastore, 1) := by decide +kernel
theorem dX1_init_110 : decode cX1_init 110 = .ok (.iinc 1 1, 3) := by decide +kernel
theorem dX1_init_113 : decode cX1_init 113 = .ok (.goto (-26), 3) := by decide +kernel
theorem dX1_init_116 : decode cX1_init 116 = .ok (.return_, 1) := by decide +kernel
theorem dX1_channelAt_0 : decode cX1_channelAt 0 = .ok (.iload_n 1, 1) := by decide +kernel
theorem dX1_channelAt_1 : decode cX1_channelAt 1 = .ok (.ifCond .lt 12, 3) := by decide +kernel
theorem dX1_channelAt_4 : decode cX1_channelAt 4 = .ok (.iload_n 1, 1) := by decide +kernel
theorem dX1_channelAt_5 : decode cX1_channelAt 5 = .ok (.aload_n 0, 1) := by decide +kernel
theorem dX1_channelAt_6 : decode cX1_channelAt 6 = .ok (.getfield 11, 3) := by decide +kernel
theorem dX1_channelAt_9 : decode cX1_channelAt 9 = .ok (.arraylength, 1) := by decide +kernel
theorem dX1_channelAt_10 : decode cX1_channelAt 10 = .ok (.if_icmp .lt 8, 3) := by decide +kernel
theorem dX1_channelAt_13 : decode cX1_channelAt 13 = .ok (.aload_n 0, 1) := by decide +kernel
theorem dX1_channelAt_14 : decode cX1_channelAt 14 = .ok (.getfield 24, 3) := by decide +kernel
theorem dX1_channelAt_17 : decode cX1_channelAt 17 = .ok (.areturn, 1) := by decide +kernel
theorem dX1_channelAt_18 : decode cX1_channelAt 18 = .ok (.aload_n 0, 1) := by decide +kernel
theorem dX1_channelAt_19 : decode cX1_channelAt 19 = .ok (.getfield 11, 3) := by decide +kernel
theorem dX1_channelAt_22 : decode cX1_channelAt 22 = .ok (.iload_n 1, 1) := by decide +kernel
theorem dX1_channelAt_23 : decode cX1_channelAt 23 = .ok (.aaload, 1) := by decide +kernel
theorem dX1_channelAt_24 : decode cX1_channelAt 24 = .ok (.astore_n 2, 1) := by decide +kernel
theorem dX1_channelAt_25 : decode cX1_channelAt 25 = .ok (.aload_n 2, 1) := by decide +kernel
theorem dX1_channelAt_26 : decode cX1_channelAt 26 = .ok (.ifnonnull 10, 3) := by decide +kernel
theorem dX1_channelAt_29 : decode cX1_channelAt 29 = .ok (.aload_n 0, 1) := by decide +kernel
theorem dX1_channelAt_30 : decode cX1_channelAt 30 = .ok (.getfield 24, 3) := by decide +kernel
theorem dX1_channelAt_33 : decode cX1_channelAt 33 = .ok (.goto 4, 3) := by decide +kernel
theorem dX1_channelAt_36 : decode cX1_channelAt 36 = .ok (.aload_n 2, 1) := by decide +kernel
theorem dX1_channelAt_37 : decode cX1_channelAt 37 = .ok (.areturn, 1) := by decide +kernel
theorem dX1_fiberAt_0 : decode cX1_fiberAt 0 = .ok (.iload_n 1, 1) := by decide +kernel
theorem dX1_fiberAt_1 : decode cX1_fiberAt 1 = .ok (.ifCond .lt 12, 3) := by decide +kernel
theorem dX1_fiberAt_4 : decode cX1_fiberAt 4 = .ok (.iload_n 1, 1) := by decide +kernel
theorem dX1_fiberAt_5 : decode cX1_fiberAt 5 = .ok (.aload_n 0, 1) := by decide +kernel
theorem dX1_fiberAt_6 : decode cX1_fiberAt 6 = .ok (.getfield 19, 3) := by decide +kernel
theorem dX1_fiberAt_9 : decode cX1_fiberAt 9 = .ok (.arraylength, 1) := by decide +kernel
theorem dX1_fiberAt_10 : decode cX1_fiberAt 10 = .ok (.if_icmp .lt 8, 3) := by decide +kernel
theorem dX1_fiberAt_13 : decode cX1_fiberAt 13 = .ok (.aload_n 0, 1) := by decide +kernel
theorem dX1_fiberAt_14 : decode cX1_fiberAt 14 = .ok (.getfield 31, 3) := by decide +kernel
theorem dX1_fiberAt_17 : decode cX1_fiberAt 17 = .ok (.areturn, 1) := by decide +kernel
theorem dX1_fiberAt_18 : decode cX1_fiberAt 18 = .ok (.aload_n 0, 1) := by decide +kernel
theorem dX1_fiberAt_19 : decode cX1_fiberAt 19 = .ok (.getfield 19, 3) := by decide +kernel
theorem dX1_fiberAt_22 : decode cX1_fiberAt 22 = .ok (.iload_n 1, 1) := by decide +kernel
theorem dX1_fiberAt_23 : decode cX1_fiberAt 23 = .ok (.aaload, 1) := by decide +kernel
theorem dX1_fiberAt_24 : decode cX1_fiberAt 24 = .ok (.astore_n 2, 1) := by decide +kernel
theorem dX1_fiberAt_25 : decode cX1_fiberAt 25 = .ok (.aload_n 2, 1) := by decide +kernel
theorem dX1_fiberAt_26 : decode cX1_fiberAt 26 = .ok (.ifnonnull 10, 3) := by decide +kernel
theorem dX1_fiberAt_29 : decode cX1_fiberAt 29 = .ok (.aload_n 0, 1) := by decide +kernel
theorem dX1_fiberAt_30 : decode cX1_fiberAt 30 = .ok (.getfield 31, 3) := by decide +kernel
theorem dX1_fiberAt_33 : decode cX1_fiberAt 33 = .ok (.goto 4, 3) := by decide +kernel
theorem dX1_fiberAt_36 : decode cX1_fiberAt 36 = .ok (.aload_n 2, 1) := by decide +kernel
theorem dX1_fiberAt_37 : decode cX1_fiberAt 37 = .ok (.areturn, 1) := by decide +kernel
theorem dX1_becomeLike_0 : decode cX1_becomeLike 0 = .ok (.aload_n 0, 1) := by decide +kernel
theorem dX1_becomeLike_1 : decode cX1_becomeLike 1 = .ok (.aload_n 1, 1) := by decide +kernel
theorem dX1_becomeLike_2 : decode cX1_becomeLike 2 = .ok (.getfield 42, 3) := by decide +kernel
theorem dX1_becomeLike_5 : decode cX1_becomeLike 5 = .ok (.putfield 42, 3) := by decide +kernel
theorem dX1_becomeLike_8 : decode cX1_becomeLike 8 = .ok (.aload_n 0, 1) := by decide +kernel
theorem dX1_becomeLike_9 : decode cX1_becomeLike 9 = .ok (.aload_n 1, 1) := by decide +kernel
theorem dX1_becomeLike_10 : decode cX1_becomeLike 10 = .ok (.getfield 46, 3) := by decide +kernel
theorem dX1_becomeLike_13 : decode cX1_becomeLike 13 = .ok (.putfield 46, 3) := by decide +kernel
theorem dX1_becomeLike_16 : decode cX1_becomeLike 16 = .ok (.aload_n 0, 1) := by decide +kernel
theorem dX1_becomeLike_17 : decode cX1_becomeLike 17 = .ok (.aload_n 1, 1) := by decide +kernel
theorem dX1_becomeLike_18 : decode cX1_becomeLike 18 = .ok (.getfield 49, 3) := by decide +kernel
theorem dX1_becomeLike_21 : decode cX1_becomeLike 21 = .ok (.putfield 49, 3) := by decide +kernel
theorem dX1_becomeLike_24 : decode cX1_becomeLike 24 = .ok (.aload_n 0, 1) := by decide +kernel
theorem dX1_becomeLike_25 : decode cX1_becomeLike 25 = .ok (.aload_n 1, 1) := by decide +kernel
theorem dX1_becomeLike_26 : decode cX1_becomeLike 26 = .ok (.getfield 52, 3) := by decide +kernel
theorem dX1_becomeLike_29 : decode cX1_becomeLike 29 = .ok (.putfield 52, 3) := by decide +kernel
theorem dX1_becomeLike_32 : decode cX1_becomeLike 32 = .ok (.aload_n 0, 1) := by decide +kernel
theorem dX1_becomeLike_33 : decode cX1_becomeLike 33 = .ok (.getfield 38, 3) := by decide +kernel
theorem dX1_becomeLike_36 : decode cX1_becomeLike 36 = .ok (.aload_n 1, 1) := by decide +kernel
theorem dX1_becomeLike_37 : decode cX1_becomeLike 37 = .ok (.getfield 38, 3) := by decide +kernel
theorem dX1_becomeLike_40 : decode cX1_becomeLike 40 = .ok (.invokevirtual 55, 3) := by decide +kernel
theorem dX1_becomeLike_43 : decode cX1_becomeLike 43 = .ok (.iconst 0, 1) := by decide +kernel
theorem dX1_becomeLike_44 : decode cX1_becomeLike 44 = .ok (.istore_n 2, 1) := by decide +kernel
theorem dX1_becomeLike_45 : decode cX1_becomeLike 45 = .ok (.iload_n 2, 1) := by decide +kernel
theorem dX1_becomeLike_46 : decode cX1_becomeLike 46 = .ok (.aload_n 0, 1) := by decide +kernel
theorem dX1_becomeLike_47 : decode cX1_becomeLike 47 = .ok (.getfield 42, 3) := by decide +kernel
theorem dX1_becomeLike_50 : decode cX1_becomeLike 50 = .ok (.if_icmp .ge 22, 3) := by decide +kernel
theorem dX1_becomeLike_53 : decode cX1_becomeLike 53 = .ok (.aload_n 0, 1) := by decide +kernel
theorem dX1_becomeLike_54 : decode cX1_becomeLike 54 = .ok (.iload_n 2, 1) := by decide +kernel
theorem dX1_becomeLike_55 : decode cX1_becomeLike 55 = .ok (.invokevirtual 59, 3) := by decide +kernel
theorem dX1_becomeLike_58 : decode cX1_becomeLike 58 = .ok (.aload_n 1, 1) := by decide +kernel
theorem dX1_becomeLike_59 : decode cX1_becomeLike 59 = .ok (.iload_n 2, 1) := by decide +kernel
theorem dX1_becomeLike_60 : decode cX1_becomeLike 60 = .ok (.invokevirtual 59, 3) := by decide +kernel
theorem dX1_becomeLike_63 : decode cX1_becomeLike 63 = .ok (.invokevirtual 63, 3) := by decide +kernel
theorem dX1_becomeLike_66 : decode cX1_becomeLike 66 = .ok (.iinc 2 1, 3) := by decide +kernel
theorem dX1_becomeLike_69 : decode cX1_becomeLike 69 = .ok (.goto (-24), 3) := by decide +kernel
theorem dX1_becomeLike_72 : decode cX1_becomeLike 72 = .ok (.iconst 0, 1) := by decide +kernel
theorem dX1_becomeLike_73 : decode cX1_becomeLike 73 = .ok (.istore_n 2, 1) := by decide +kernel
theorem dX1_becomeLike_74 : decode cX1_becomeLike 74 = .ok (.iload_n 2, 1) := by decide +kernel
theorem dX1_becomeLike_75 : decode cX1_becomeLike 75 = .ok (.aload_n 0, 1) := by decide +kernel
theorem dX1_becomeLike_76 : decode cX1_becomeLike 76 = .ok (.getfield 46, 3) := by decide +kernel
theorem dX1_becomeLike_79 : decode cX1_becomeLike 79 = .ok (.if_icmp .ge 22, 3) := by decide +kernel
theorem dX1_becomeLike_82 : decode cX1_becomeLike 82 = .ok (.aload_n 0, 1) := by decide +kernel
theorem dX1_becomeLike_83 : decode cX1_becomeLike 83 = .ok (.iload_n 2, 1) := by decide +kernel
theorem dX1_becomeLike_84 : decode cX1_becomeLike 84 = .ok (.invokevirtual 66, 3) := by decide +kernel
theorem dX1_becomeLike_87 : decode cX1_becomeLike 87 = .ok (.aload_n 1, 1) := by decide +kernel
theorem dX1_becomeLike_88 : decode cX1_becomeLike 88 = .ok (.iload_n 2, 1) := by decide +kernel
theorem dX1_becomeLike_89 : decode cX1_becomeLike 89 = .ok (.invokevirtual 66, 3) := by decide +kernel
theorem dX1_becomeLike_92 : decode cX1_becomeLike 92 = .ok (.invokevirtual 70, 3) := by decide +kernel
theorem dX1_becomeLike_95 : decode cX1_becomeLike 95 = .ok (.iinc 2 1, 3) := by decide +kernel
theorem dX1_becomeLike_98 : decode cX1_becomeLike 98 = .ok (.goto (-24), 3) := by decide +kernel
theorem dX1_becomeLike_101 : decode cX1_becomeLike 101 = .ok (.return_, 1) := by decide +kernel
theorem dX1_countDone_0 : decode cX1_countDone 0 = .ok (.iconst 0, 1) := by decide +kernel
theorem dX1_countDone_1 : decode cX1_countDone 1 = .ok (.istore_n 1, 1) := by decide +kernel
theorem dX1_countDone_2 : decode cX1_countDone 2 = .ok (.iconst 0, 1) := by decide +kernel
theorem dX1_countDone_3 : decode cX1_countDone 3 = .ok (.istore_n 2, 1) := by decide +kernel
theorem dX1_countDone_4 : decode cX1_countDone 4 = .ok (.iload_n 2, 1) := by decide +kernel
theorem dX1_countDone_5 : decode cX1_countDone 5 = .ok (.aload_n 0, 1) := by decide +kernel
theorem dX1_countDone_6 : decode cX1_countDone 6 = .ok (.getfield 46, 3) := by decide +kernel
theorem dX1_countDone_9 : decode cX1_countDone 9 = .ok (.if_icmp .ge 24, 3) := by decide +kernel
theorem dX1_countDone_12 : decode cX1_countDone 12 = .ok (.aload_n 0, 1) := by decide +kernel
theorem dX1_countDone_13 : decode cX1_countDone 13 = .ok (.iload_n 2, 1) := by decide +kernel
theorem dX1_countDone_14 : decode cX1_countDone 14 = .ok (.invokevirtual 66, 3) := by decide +kernel
theorem dX1_countDone_17 : decode cX1_countDone 17 = .ok (.getfield 73, 3) := by decide +kernel
theorem dX1_countDone_20 : decode cX1_countDone 20 = .ok (.iconst 5, 1) := by decide +kernel
theorem dX1_countDone_21 : decode cX1_countDone 21 = .ok (.if_icmp .ne 6, 3) := by decide +kernel
theorem dX1_countDone_24 : decode cX1_countDone 24 = .ok (.iinc 1 1, 3) := by decide +kernel
theorem dX1_countDone_27 : decode cX1_countDone 27 = .ok (.iinc 2 1, 3) := by decide +kernel
theorem dX1_countDone_30 : decode cX1_countDone 30 = .ok (.goto (-26), 3) := by decide +kernel
theorem dX1_countDone_33 : decode cX1_countDone 33 = .ok (.iload_n 1, 1) := by decide +kernel
theorem dX1_countDone_34 : decode cX1_countDone 34 = .ok (.ireturn, 1) := by decide +kernel
theorem dX1_allAreDone_0 : decode cX1_allAreDone 0 = .ok (.aload_n 0, 1) := by decide +kernel
theorem dX1_allAreDone_1 : decode cX1_allAreDone 1 = .ok (.invokevirtual 76, 3) := by decide +kernel
theorem dX1_allAreDone_4 : decode cX1_allAreDone 4 = .ok (.aload_n 0, 1) := by decide +kernel
theorem dX1_allAreDone_5 : decode cX1_allAreDone 5 = .ok (.getfield 46, 3) := by decide +kernel
theorem dX1_allAreDone_8 : decode cX1_allAreDone 8 = .ok (.if_icmp .ne 7, 3) := by decide +kernel
theorem dX1_allAreDone_11 : decode cX1_allAreDone 11 = .ok (.iconst 1, 1) := by decide +kernel
theorem dX1_allAreDone_12 : decode cX1_allAreDone 12 = .ok (.goto 4, 3) := by decide +kernel
theorem dX1_allAreDone_15 : decode cX1_allAreDone 15 = .ok (.iconst 0, 1) := by decide +kernel
theorem dX1_allAreDone_16 : decode cX1_allAreDone 16 = .ok (.ireturn, 1) := by decide +kernel
theorem dX1_hasStopped_0 : decode cX1_hasStopped 0 = .ok (.iconst 0, 1) := by decide +kernel
theorem dX1_hasStopped_1 : decode cX1_hasStopped 1 = .ok (.istore_n 1, 1) := by decide +kernel
theorem dX1_hasStopped_2 : decode cX1_hasStopped 2 = .ok (.iload_n 1, 1) := by decide +kernel
theorem dX1_hasStopped_3 : decode cX1_hasStopped 3 = .ok (.aload_n 0, 1) := by decide +kernel
theorem dX1_hasStopped_4 : decode cX1_hasStopped 4 = .ok (.getfield 46, 3) := by decide +kernel
theorem dX1_hasStopped_7 : decode cX1_hasStopped 7 = .ok (.if_icmp .ge 29, 3) := by decide +kernel
theorem dX1_hasStopped_10 : decode cX1_hasStopped 10 = .ok (.aload_n 0, 1) := by decide +kernel
theorem dX1_hasStopped_11 : decode cX1_hasStopped 11 = .ok (.iload_n 1, 1) := by decide +kernel
theorem dX1_hasStopped_12 : decode cX1_hasStopped 12 = .ok (.invokevirtual 66, 3) := by decide +kernel
theorem dX1_hasStopped_15 : decode cX1_hasStopped 15 = .ok (.getfield 73, 3) := by decide +kernel
theorem dX1_hasStopped_18 : decode cX1_hasStopped 18 = .ok (.istore_n 2, 1) := by decide +kernel
theorem dX1_hasStopped_19 : decode cX1_hasStopped 19 = .ok (.iload_n 2, 1) := by decide +kernel
theorem dX1_hasStopped_20 : decode cX1_hasStopped 20 = .ok (.ifCond .eq 8, 3) := by decide +kernel
theorem dX1_hasStopped_23 : decode cX1_hasStopped 23 = .ok (.iload_n 2, 1) := by decide +kernel
theorem dX1_hasStopped_24 : decode cX1_hasStopped 24 = .ok (.iconst 3, 1) := by decide +kernel
theorem dX1_hasStopped_25 : decode cX1_hasStopped 25 = .ok (.if_icmp .ne 5, 3) := by decide +kernel
theorem dX1_hasStopped_28 : decode cX1_hasStopped 28 = .ok (.iconst 0, 1) := by decide +kernel
theorem dX1_hasStopped_29 : decode cX1_hasStopped 29 = .ok (.ireturn, 1) := by decide +kernel
theorem dX1_hasStopped_30 : decode cX1_hasStopped 30 = .ok (.iinc 1 1, 3) := by decide +kernel
theorem dX1_hasStopped_33 : decode cX1_hasStopped 33 = .ok (.goto (-31), 3) := by decide +kernel
theorem dX1_hasStopped_36 : decode cX1_hasStopped 36 = .ok (.iconst 1, 1) := by decide +kernel
theorem dX1_hasStopped_37 : decode cX1_hasStopped 37 = .ok (.ireturn, 1) := by decide +kernel
theorem dX1_letTurnGoBy_0 : decode cX1_letTurnGoBy 0 = .ok (.aload_n 0, 1) := by decide +kernel
theorem dX1_letTurnGoBy_1 : decode cX1_letTurnGoBy 1 = .ok (.invokevirtual 80, 3) := by decide +kernel
theorem dX1_letTurnGoBy_4 : decode cX1_letTurnGoBy 4 = .ok (.aload_n 0, 1) := by decide +kernel
theorem dX1_letTurnGoBy_5 : decode cX1_letTurnGoBy 5 = .ok (.getfield 38, 3) := by decide +kernel
theorem dX1_letTurnGoBy_8 : decode cX1_letTurnGoBy 8 = .ok (.getfield 83, 3) := by decide +kernel
theorem dX1_letTurnGoBy_11 : decode cX1_letTurnGoBy 11 = .ok (.ifCond .gt 16, 3) := by decide +kernel
theorem dX1_letTurnGoBy_14 : decode cX1_letTurnGoBy 14 = .ok (.aload_n 0, 1) := by decide +kernel
theorem dX1_letTurnGoBy_15 : decode cX1_letTurnGoBy 15 = .ok (.dup, 1) := by decide +kernel
theorem dX1_letTurnGoBy_16 : decode cX1_letTurnGoBy 16 = .ok (.getfield 52, 3) := by decide +kernel
theorem dX1_letTurnGoBy_19 : decode cX1_letTurnGoBy 19 = .ok (.iconst 1, 1) := by decide +kernel
theorem dX1_letTurnGoBy_20 : decode cX1_letTurnGoBy 20 = .ok (.iadd, 1) := by decide +kernel
theorem dX1_letTurnGoBy_21 : decode cX1_letTurnGoBy 21 = .ok (.putfield 52, 3) := by decide +kernel
theorem dX1_letTurnGoBy_24 : decode cX1_letTurnGoBy 24 = .ok (.goto 62, 3) := by decide +kernel
theorem dX1_letTurnGoBy_27 : decode cX1_letTurnGoBy 27 = .ok (.aload_n 0, 1) := by decide +kernel
theorem dX1_letTurnGoBy_28 : decode cX1_letTurnGoBy 28 = .ok (.aload_n 0, 1) := by decide +kernel
theorem dX1_letTurnGoBy_29 : decode cX1_letTurnGoBy 29 = .ok (.getfield 38, 3) := by decide +kernel
theorem dX1_letTurnGoBy_32 : decode cX1_letTurnGoBy 32 = .ok (.invokevirtual 86, 3) := by decide +kernel
theorem dX1_letTurnGoBy_35 : decode cX1_letTurnGoBy 35 = .ok (.invokevirtual 66, 3) := by decide +kernel
theorem dX1_letTurnGoBy_38 : decode cX1_letTurnGoBy 38 = .ok (.astore_n 1, 1) := by decide +kernel
theorem dX1_letTurnGoBy_39 : decode cX1_letTurnGoBy 39 = .ok (.aload_n 1, 1) := by decide +kernel
theorem dX1_letTurnGoBy_40 : decode cX1_letTurnGoBy 40 = .ok (.dup, 1) := by decide +kernel
theorem dX1_letTurnGoBy_41 : decode cX1_letTurnGoBy 41 = .ok (.getfield 89, 3) := by decide +kernel
theorem dX1_letTurnGoBy_44 : decode cX1_letTurnGoBy 44 = .ok (.iconst 1, 1) := by decide +kernel
theorem dX1_letTurnGoBy_45 : decode cX1_letTurnGoBy 45 = .ok (.iadd, 1) := by decide +kernel
theorem dX1_letTurnGoBy_46 : decode cX1_letTurnGoBy 46 = .ok (.putfield 89, 3) := by decide +kernel
theorem dX1_letTurnGoBy_49 : decode cX1_letTurnGoBy 49 = .ok (.iconst 1, 1) := by decide +kernel
theorem dX1_letTurnGoBy_50 : decode cX1_letTurnGoBy 50 = .ok (.istore_n 2, 1) := by decide +kernel
theorem dX1_letTurnGoBy_51 : decode cX1_letTurnGoBy 51 = .ok (.iconst 0, 1) := by decide +kernel
theorem dX1_letTurnGoBy_52 : decode cX1_letTurnGoBy 52 = .ok (.istore_n 3, 1) := by decide +kernel
theorem dX1_letTurnGoBy_53 : decode cX1_letTurnGoBy 53 = .ok (.iload_n 3, 1) := by decide +kernel
theorem dX1_letTurnGoBy_54 : decode cX1_letTurnGoBy 54 = .ok (.iconst 4, 1) := by decide +kernel
theorem dX1_letTurnGoBy_55 : decode cX1_letTurnGoBy 55 = .ok (.if_icmp .ge 26, 3) := by decide +kernel
theorem dX1_letTurnGoBy_58 : decode cX1_letTurnGoBy 58 = .ok (.iload_n 2, 1) := by decide +kernel
theorem dX1_letTurnGoBy_59 : decode cX1_letTurnGoBy 59 = .ok (.ifCond .eq 22, 3) := by decide +kernel
theorem dX1_letTurnGoBy_62 : decode cX1_letTurnGoBy 62 = .ok (.aload_n 1, 1) := by decide +kernel
theorem dX1_letTurnGoBy_63 : decode cX1_letTurnGoBy 63 = .ok (.invokevirtual 92, 3) := by decide +kernel
theorem dX1_letTurnGoBy_66 : decode cX1_letTurnGoBy 66 = .ok (.ifCond .eq 15, 3) := by decide +kernel
theorem dX1_letTurnGoBy_69 : decode cX1_letTurnGoBy 69 = .ok (.aload_n 0, 1) := by decide +kernel
theorem dX1_letTurnGoBy_70 : decode cX1_letTurnGoBy 70 = .ok (.aload_n 1, 1) := by decide +kernel
theorem dX1_letTurnGoBy_71 : decode cX1_letTurnGoBy 71 = .ok (.invokevirtual 96, 3) := by decide +kernel
theorem dX1_letTurnGoBy_74 : decode cX1_letTurnGoBy 74 = .ok (.istore_n 2, 1) := by decide +kernel
theorem dX1_letTurnGoBy_75 : decode cX1_letTurnGoBy 75 = .ok (.iinc 3 1, 3) := by decide +kernel
theorem dX1_letTurnGoBy_78 : decode cX1_letTurnGoBy 78 = .ok (.goto (-25), 3) := by decide +kernel
theorem dX1_letTurnGoBy_81 : decode cX1_letTurnGoBy 81 = .ok (.aload_n 0, 1) := by decide +kernel
theorem dX1_letTurnGoBy_82 : decode cX1_letTurnGoBy 82 = .ok (.aload_n 1, 1) := by decide +kernel
theorem dX1_letTurnGoBy_83 : decode cX1_letTurnGoBy 83 = .ok (.invokevirtual 100, 3) := by decide +kernel
theorem dX1_letTurnGoBy_86 : decode cX1_letTurnGoBy 86 = .ok (.aload_n 0, 1) := by decide +kernel
theorem dX1_letTurnGoBy_87 : decode cX1_letTurnGoBy 87 = .ok (.dup, 1) := by decide +kernel
theorem dX1_letTurnGoBy_88 : decode cX1_letTurnGoBy 88 = .ok (.getfield 49, 3) := by decide +kernel
theorem dX1_letTurnGoBy_91 : decode cX1_letTurnGoBy 91 = .ok (.iconst 1, 1) := by decide +kernel
theorem dX1_letTurnGoBy_92 : decode cX1_letTurnGoBy 92 = .ok (.iadd, 1) := by decide +kernel
theorem dX1_letTurnGoBy_93 : decode cX1_letTurnGoBy 93 = .ok (.putfield 49, 3) := by decide +kernel
theorem dX1_letTurnGoBy_96 : decode cX1_letTurnGoBy 96 = .ok (.return_, 1) := by decide +kernel
theorem dX1_makeReady_0 : decode cX1_makeReady 0 = .ok (.aload_n 1, 1) := by decide +kernel
theorem dX1_makeReady_1 : decode cX1_makeReady 1 = .ok (.iconst 0, 1) := by decide +kernel
theorem dX1_makeReady_2 : decode cX1_makeReady 2 = .ok (.putfield 73, 3) := by decide +kernel
theorem dX1_makeReady_5 : decode cX1_makeReady 5 = .ok (.aload_n 0, 1) := by decide +kernel
theorem dX1_makeReady_6 : decode cX1_makeReady 6 = .ok (.getfield 38, 3) := by decide +kernel
theorem dX1_makeReady_9 : decode cX1_makeReady 9 = .ok (.aload_n 1, 1) := by decide +kernel
theorem dX1_makeReady_10 : decode cX1_makeReady 10 = .ok (.getfield 103, 3) := by decide +kernel
theorem dX1_makeReady_13 : decode cX1_makeReady 13 = .ok (.invokevirtual 106, 3) := by decide +kernel
theorem dX1_makeReady_16 : decode cX1_makeReady 16 = .ok (.return_, 1) := by decide +kernel
theorem dX1_wakeFirst_0 : decode cX1_wakeFirst 0 = .ok (.aload_n 1, 1) := by decide +kernel
theorem dX1_wakeFirst_1 : decode cX1_wakeFirst 1 = .ok (.getfield 83, 3) := by decide +kernel
theorem dX1_wakeFirst_4 : decode cX1_wakeFirst 4 = .ok (.ifCond .le 28, 3) := by decide +kernel
theorem dX1_wakeFirst_7 : decode cX1_wakeFirst 7 = .ok (.aload_n 0, 1) := by decide +kernel
theorem dX1_wakeFirst_8 : decode cX1_wakeFirst 8 = .ok (.aload_n 1, 1) := by decide +kernel
theorem dX1_wakeFirst_9 : decode cX1_wakeFirst 9 = .ok (.invokevirtual 86, 3) := by decide +kernel
theorem dX1_wakeFirst_12 : decode cX1_wakeFirst 12 = .ok (.invokevirtual 66, 3) := by decide +kernel
theorem dX1_wakeFirst_15 : decode cX1_wakeFirst 15 = .ok (.astore_n 2, 1) := by decide +kernel
theorem dX1_wakeFirst_16 : decode cX1_wakeFirst 16 = .ok (.aload_n 2, 1) := by decide +kernel
theorem dX1_wakeFirst_17 : decode cX1_wakeFirst 17 = .ok (.iconst 0, 1) := by decide +kernel
theorem dX1_wakeFirst_18 : decode cX1_wakeFirst 18 = .ok (.putfield 73, 3) := by decide +kernel
theorem dX1_wakeFirst_21 : decode cX1_wakeFirst 21 = .ok (.aload_n 0, 1) := by decide +kernel
theorem dX1_wakeFirst_22 : decode cX1_wakeFirst 22 = .ok (.getfield 38, 3) := by decide +kernel
theorem dX1_wakeFirst_25 : decode cX1_wakeFirst 25 = .ok (.aload_n 2, 1) := by decide +kernel
theorem dX1_wakeFirst_26 : decode cX1_wakeFirst 26 = .ok (.getfield 103, 3) := by decide +kernel
theorem dX1_wakeFirst_29 : decode cX1_wakeFirst 29 = .ok (.invokevirtual 106, 3) := by decide +kernel
theorem dX1_wakeFirst_32 : decode cX1_wakeFirst 32 = .ok (.return_, 1) := by decide +kernel
theorem dX1_wakeSleepers_0 : decode cX1_wakeSleepers 0 = .ok (.iconst 0, 1) := by decide +kernel
theorem dX1_wakeSleepers_1 : decode cX1_wakeSleepers 1 = .ok (.istore_n 1, 1) := by decide +kernel
theorem dX1_wakeSleepers_2 : decode cX1_wakeSleepers 2 = .ok (.iload_n 1, 1) := by decide +kernel
theorem dX1_wakeSleepers_3 : decode cX1_wakeSleepers 3 = .ok (.aload_n 0, 1) := by decide +kernel
theorem dX1_wakeSleepers_4 : decode cX1_wakeSleepers 4 = .ok (.getfield 46, 3) := by decide +kernel
theorem dX1_wakeSleepers_7 : decode cX1_wakeSleepers 7 = .ok (.if_icmp .ge 39, 3) := by decide +kernel
theorem dX1_wakeSleepers_10 : decode cX1_wakeSleepers 10 = .ok (.aload_n 0, 1) := by decide +kernel
theorem dX1_wakeSleepers_11 : decode cX1_wakeSleepers 11 = .ok (.iload_n 1, 1) := by decide +kernel
theorem dX1_wakeSleepers_12 : decode cX1_wakeSleepers 12 = .ok (.invokevirtual 66, 3) := by decide +kernel
theorem dX1_wakeSleepers_15 : decode cX1_wakeSleepers 15 = .ok (.astore_n 2, 1) := by decide +kernel
theorem dX1_wakeSleepers_16 : decode cX1_wakeSleepers 16 = .ok (.aload_n 2, 1) := by decide +kernel
theorem dX1_wakeSleepers_17 : decode cX1_wakeSleepers 17 = .ok (.getfield 73, 3) := by decide +kernel
theorem dX1_wakeSleepers_20 : decode cX1_wakeSleepers 20 = .ok (.iconst 3, 1) := by decide +kernel
theorem dX1_wakeSleepers_21 : decode cX1_wakeSleepers 21 = .ok (.if_icmp .ne 19, 3) := by decide +kernel
theorem dX1_wakeSleepers_24 : decode cX1_wakeSleepers 24 = .ok (.aload_n 2, 1) := by decide +kernel
theorem dX1_wakeSleepers_25 : decode cX1_wakeSleepers 25 = .ok (.getfield 109, 3) := by decide +kernel
theorem dX1_wakeSleepers_28 : decode cX1_wakeSleepers 28 = .ok (.aload_n 0, 1) := by decide +kernel
theorem dX1_wakeSleepers_29 : decode cX1_wakeSleepers 29 = .ok (.getfield 49, 3) := by decide +kernel
theorem dX1_wakeSleepers_32 : decode cX1_wakeSleepers 32 = .ok (.if_icmp .ne 8, 3) := by decide +kernel
theorem dX1_wakeSleepers_35 : decode cX1_wakeSleepers 35 = .ok (.aload_n 0, 1) := by decide +kernel
theorem dX1_wakeSleepers_36 : decode cX1_wakeSleepers 36 = .ok (.aload_n 2, 1) := by decide +kernel
theorem dX1_wakeSleepers_37 : decode cX1_wakeSleepers 37 = .ok (.invokevirtual 112, 3) := by decide +kernel
theorem dX1_wakeSleepers_40 : decode cX1_wakeSleepers 40 = .ok (.iinc 1 1, 3) := by decide +kernel
theorem dX1_wakeSleepers_43 : decode cX1_wakeSleepers 43 = .ok (.goto (-41), 3) := by decide +kernel
theorem dX1_wakeSleepers_46 : decode cX1_wakeSleepers 46 = .ok (.return_, 1) := by decide +kernel
theorem dX1_doStep_0 : decode cX1_doStep 0 = .ok (.aload_n 1, 1) := by decide +kernel
theorem dX1_doStep_1 : decode cX1_doStep 1 = .ok (.aload_n 1, 1) := by decide +kernel
theorem dX1_doStep_2 : decode cX1_doStep 2 = .ok (.getfield 115, 3) := by decide +kernel
theorem dX1_doStep_5 : decode cX1_doStep 5 = .ok (.invokevirtual 118, 3) := by decide +kernel
theorem dX1_doStep_8 : decode cX1_doStep 8 = .ok (.astore_n 2, 1) := by decide +kernel
theorem dX1_doStep_9 : decode cX1_doStep 9 = .ok (.aload_n 2, 1) := by decide +kernel
theorem dX1_doStep_10 : decode cX1_doStep 10 = .ok (.getfield 122, 3) := by decide +kernel
theorem dX1_doStep_13 : decode cX1_doStep 13 = .ok (.tableswitch 132 0 6 #[43, 75, 87, 132, 112, 124, 59], 43) := by decide +kernel
theorem dX1_doStep_56 : decode cX1_doStep 56 = .ok (.aload_n 0, 1) := by decide +kernel
theorem dX1_doStep_57 : decode cX1_doStep 57 = .ok (.aload_n 1, 1) := by decide +kernel
theorem dX1_doStep_58 : decode cX1_doStep 58 = .ok (.aload_n 2, 1) := by decide +kernel
theorem dX1_doStep_59 : decode cX1_doStep 59 = .ok (.getfield 127, 3) := by decide +kernel
theorem dX1_doStep_62 : decode cX1_doStep 62 = .ok (.aload_n 2, 1) := by decide +kernel
theorem dX1_doStep_63 : decode cX1_doStep 63 = .ok (.getfield 130, 3) := by decide +kernel
theorem dX1_doStep_66 : decode cX1_doStep 66 = .ok (.invokevirtual 133, 3) := by decide +kernel
theorem dX1_doStep_69 : decode cX1_doStep 69 = .ok (.goto 82, 3) := by decide +kernel
theorem dX1_doStep_72 : decode cX1_doStep 72 = .ok (.aload_n 0, 1) := by decide +kernel
theorem dX1_doStep_73 : decode cX1_doStep 73 = .ok (.aload_n 1, 1) := by decide +kernel
theorem dX1_doStep_74 : decode cX1_doStep 74 = .ok (.aload_n 2, 1) := by decide +kernel
theorem dX1_doStep_75 : decode cX1_doStep 75 = .ok (.getfield 127, 3) := by decide +kernel
theorem dX1_doStep_78 : decode cX1_doStep 78 = .ok (.aload_n 1, 1) := by decide +kernel
theorem dX1_doStep_79 : decode cX1_doStep 79 = .ok (.getfield 137, 3) := by decide +kernel
theorem dX1_doStep_82 : decode cX1_doStep 82 = .ok (.invokevirtual 133, 3) := by decide +kernel
theorem dX1_doStep_85 : decode cX1_doStep 85 = .ok (.goto 66, 3) := by decide +kernel
theorem dX1_doStep_88 : decode cX1_doStep 88 = .ok (.aload_n 0, 1) := by decide +kernel
theorem dX1_doStep_89 : decode cX1_doStep 89 = .ok (.aload_n 1, 1) := by decide +kernel
theorem dX1_doStep_90 : decode cX1_doStep 90 = .ok (.aload_n 2, 1) := by decide +kernel
theorem dX1_doStep_91 : decode cX1_doStep 91 = .ok (.getfield 127, 3) := by decide +kernel
theorem dX1_doStep_94 : decode cX1_doStep 94 = .ok (.invokevirtual 140, 3) := by decide +kernel
theorem dX1_doStep_97 : decode cX1_doStep 97 = .ok (.goto 54, 3) := by decide +kernel
theorem dX1_doStep_100 : decode cX1_doStep 100 = .ok (.aload_n 1, 1) := by decide +kernel
theorem dX1_doStep_101 : decode cX1_doStep 101 = .ok (.aload_n 0, 1) := by decide +kernel
theorem dX1_doStep_102 : decode cX1_doStep 102 = .ok (.getfield 49, 3) := by decide +kernel
theorem dX1_doStep_105 : decode cX1_doStep 105 = .ok (.aload_n 2, 1) := by decide +kernel
theorem dX1_doStep_106 : decode cX1_doStep 106 = .ok (.getfield 127, 3) := by decide +kernel
theorem dX1_doStep_109 : decode cX1_doStep 109 = .ok (.iadd, 1) := by decide +kernel
theorem dX1_doStep_110 : decode cX1_doStep 110 = .ok (.putfield 109, 3) := by decide +kernel
theorem dX1_doStep_113 : decode cX1_doStep 113 = .ok (.aload_n 1, 1) := by decide +kernel
theorem dX1_doStep_114 : decode cX1_doStep 114 = .ok (.iconst 3, 1) := by decide +kernel
theorem dX1_doStep_115 : decode cX1_doStep 115 = .ok (.putfield 73, 3) := by decide +kernel
theorem dX1_doStep_118 : decode cX1_doStep 118 = .ok (.aload_n 1, 1) := by decide +kernel
theorem dX1_doStep_119 : decode cX1_doStep 119 = .ok (.invokevirtual 144, 3) := by decide +kernel
theorem dX1_doStep_122 : decode cX1_doStep 122 = .ok (.goto 29, 3) := by decide +kernel
theorem dX1_doStep_125 : decode cX1_doStep 125 = .ok (.aload_n 0, 1) := by decide +kernel
theorem dX1_doStep_126 : decode cX1_doStep 126 = .ok (.aload_n 1, 1) := by decide +kernel
theorem dX1_doStep_127 : decode cX1_doStep 127 = .ok (.aload_n 2, 1) := by decide +kernel
theorem dX1_doStep_128 : decode cX1_doStep 128 = .ok (.getfield 127, 3) := by decide +kernel
theorem dX1_doStep_131 : decode cX1_doStep 131 = .ok (.invokevirtual 147, 3) := by decide +kernel
theorem dX1_doStep_134 : decode cX1_doStep 134 = .ok (.goto 17, 3) := by decide +kernel
theorem dX1_doStep_137 : decode cX1_doStep 137 = .ok (.aload_n 1, 1) := by decide +kernel
theorem dX1_doStep_138 : decode cX1_doStep 138 = .ok (.aload_n 2, 1) := by decide +kernel
theorem dX1_doStep_139 : decode cX1_doStep 139 = .ok (.invokevirtual 150, 3) := by decide +kernel
theorem dX1_doStep_142 : decode cX1_doStep 142 = .ok (.goto 9, 3) := by decide +kernel
theorem dX1_doStep_145 : decode cX1_doStep 145 = .ok (.aload_n 1, 1) := by decide +kernel
theorem dX1_doStep_146 : decode cX1_doStep 146 = .ok (.invokevirtual 144, 3) := by decide +kernel
theorem dX1_doStep_149 : decode cX1_doStep 149 = .ok (.iconst 0, 1) := by decide +kernel
theorem dX1_doStep_150 : decode cX1_doStep 150 = .ok (.ireturn, 1) := by decide +kernel
theorem dX1_doStep_151 : decode cX1_doStep 151 = .ok (.aload_n 1, 1) := by decide +kernel
theorem dX1_doStep_152 : decode cX1_doStep 152 = .ok (.getfield 73, 3) := by decide +kernel
theorem dX1_doStep_155 : decode cX1_doStep 155 = .ok (.ifCond .ne 7, 3) := by decide +kernel
theorem dX1_doStep_158 : decode cX1_doStep 158 = .ok (.iconst 1, 1) := by decide +kernel
theorem dX1_doStep_159 : decode cX1_doStep 159 = .ok (.goto 4, 3) := by decide +kernel
theorem dX1_doStep_162 : decode cX1_doStep 162 = .ok (.iconst 0, 1) := by decide +kernel
theorem dX1_doStep_163 : decode cX1_doStep 163 = .ok (.ireturn, 1) := by decide +kernel
theorem dX1_send_0 : decode cX1_send 0 = .ok (.aload_n 0, 1) := by decide +kernel
theorem dX1_send_1 : decode cX1_send 1 = .ok (.iload_n 2, 1) := by decide +kernel
theorem dX1_send_2 : decode cX1_send 2 = .ok (.invokevirtual 59, 3) := by decide +kernel
theorem dX1_send_5 : decode cX1_send 5 = .ok (.astore 4, 2) := by decide +kernel
theorem dX1_send_7 : decode cX1_send 7 = .ok (.aload 4, 2) := by decide +kernel
theorem dX1_send_9 : decode cX1_send 9 = .ok (.invokevirtual 154, 3) := by decide +kernel
theorem dX1_send_12 : decode cX1_send 12 = .ok (.ifCond .eq 28, 3) := by decide +kernel
theorem dX1_send_15 : decode cX1_send 15 = .ok (.aload 4, 2) := by decide +kernel
theorem dX1_send_17 : decode cX1_send 17 = .ok (.getfield 157, 3) := by decide +kernel
theorem dX1_send_20 : decode cX1_send 20 = .ok (.iload_n 3, 1) := by decide +kernel
theorem dX1_send_21 : decode cX1_send 21 = .ok (.invokevirtual 106, 3) := by decide +kernel
theorem dX1_send_24 : decode cX1_send 24 = .ok (.aload_n 0, 1) := by decide +kernel
theorem dX1_send_25 : decode cX1_send 25 = .ok (.aload 4, 2) := by decide +kernel
theorem dX1_send_27 : decode cX1_send 27 = .ok (.getfield 160, 3) := by decide +kernel
theorem dX1_send_30 : decode cX1_send 30 = .ok (.invokevirtual 163, 3) := by decide +kernel
theorem dX1_send_33 : decode cX1_send 33 = .ok (.aload_n 1, 1) := by decide +kernel
theorem dX1_send_34 : decode cX1_send 34 = .ok (.invokevirtual 144, 3) := by decide +kernel
theorem dX1_send_37 : decode cX1_send 37 = .ok (.goto 20, 3) := by decide +kernel
theorem dX1_send_40 : decode cX1_send 40 = .ok (.aload_n 1, 1) := by decide +kernel
theorem dX1_send_41 : decode cX1_send 41 = .ok (.iconst 1, 1) := by decide +kernel
theorem dX1_send_42 : decode cX1_send 42 = .ok (.putfield 73, 3) := by decide +kernel
theorem dX1_send_45 : decode cX1_send 45 = .ok (.aload 4, 2) := by decide +kernel
theorem dX1_send_47 : decode cX1_send 47 = .ok (.getfield 166, 3) := by decide +kernel
theorem dX1_send_50 : decode cX1_send 50 = .ok (.aload_n 1, 1) := by decide +kernel
theorem dX1_send_51 : decode cX1_send 51 = .ok (.getfield 103, 3) := by decide +kernel
theorem dX1_send_54 : decode cX1_send 54 = .ok (.invokevirtual 106, 3) := by decide +kernel
theorem dX1_send_57 : decode cX1_send 57 = .ok (.return_, 1) := by decide +kernel
theorem dX1_take_0 : decode cX1_take 0 = .ok (.aload_n 0, 1) := by decide +kernel
theorem dX1_take_1 : decode cX1_take 1 = .ok (.iload_n 2, 1) := by decide +kernel
theorem dX1_take_2 : decode cX1_take 2 = .ok (.invokevirtual 59, 3) := by decide +kernel
theorem dX1_take_5 : decode cX1_take 5 = .ok (.astore_n 3, 1) := by decide +kernel
theorem dX1_take_6 : decode cX1_take 6 = .ok (.aload_n 3, 1) := by decide +kernel
theorem dX1_take_7 : decode cX1_take 7 = .ok (.getfield 157, 3) := by decide +kernel
theorem dX1_take_10 : decode cX1_take 10 = .ok (.getfield 83, 3) := by decide +kernel
theorem dX1_take_13 : decode cX1_take 13 = .ok (.ifCond .le 34, 3) := by decide +kernel
theorem dX1_take_16 : decode cX1_take 16 = .ok (.aload_n 1, 1) := by decide +kernel
theorem dX1_take_17 : decode cX1_take 17 = .ok (.dup, 1) := by decide +kernel
theorem dX1_take_18 : decode cX1_take 18 = .ok (.getfield 137, 3) := by decide +kernel
theorem dX1_take_21 : decode cX1_take 21 = .ok (.aload_n 3, 1) := by decide +kernel
theorem dX1_take_22 : decode cX1_take 22 = .ok (.getfield 157, 3) := by decide +kernel
theorem dX1_take_25 : decode cX1_take 25 = .ok (.invokevirtual 86, 3) := by decide +kernel
theorem dX1_take_28 : decode cX1_take 28 = .ok (.iadd, 1) := by decide +kernel
theorem dX1_take_29 : decode cX1_take 29 = .ok (.putfield 137, 3) := by decide +kernel
theorem dX1_take_32 : decode cX1_take 32 = .ok (.aload_n 0, 1) := by decide +kernel
theorem dX1_take_33 : decode cX1_take 33 = .ok (.aload_n 3, 1) := by decide +kernel
theorem dX1_take_34 : decode cX1_take 34 = .ok (.getfield 166, 3) := by decide +kernel
theorem dX1_take_37 : decode cX1_take 37 = .ok (.invokevirtual 163, 3) := by decide +kernel
theorem dX1_take_40 : decode cX1_take 40 = .ok (.aload_n 1, 1) := by decide +kernel
theorem dX1_take_41 : decode cX1_take 41 = .ok (.invokevirtual 144, 3) := by decide +kernel
theorem dX1_take_44 : decode cX1_take 44 = .ok (.goto 19, 3) := by decide +kernel
theorem dX1_take_47 : decode cX1_take 47 = .ok (.aload_n 1, 1) := by decide +kernel
theorem dX1_take_48 : decode cX1_take 48 = .ok (.iconst 2, 1) := by decide +kernel
theorem dX1_take_49 : decode cX1_take 49 = .ok (.putfield 73, 3) := by decide +kernel
theorem dX1_take_52 : decode cX1_take 52 = .ok (.aload_n 3, 1) := by decide +kernel
theorem dX1_take_53 : decode cX1_take 53 = .ok (.getfield 160, 3) := by decide +kernel
theorem dX1_take_56 : decode cX1_take 56 = .ok (.aload_n 1, 1) := by decide +kernel
theorem dX1_take_57 : decode cX1_take 57 = .ok (.getfield 103, 3) := by decide +kernel
theorem dX1_take_60 : decode cX1_take 60 = .ok (.invokevirtual 106, 3) := by decide +kernel
theorem dX1_take_63 : decode cX1_take 63 = .ok (.return_, 1) := by decide +kernel
theorem dX1_waitFor_0 : decode cX1_waitFor 0 = .ok (.aload_n 0, 1) := by decide +kernel
theorem dX1_waitFor_1 : decode cX1_waitFor 1 = .ok (.iload_n 2, 1) := by decide +kernel
theorem dX1_waitFor_2 : decode cX1_waitFor 2 = .ok (.invokevirtual 66, 3) := by decide +kernel
theorem dX1_waitFor_5 : decode cX1_waitFor 5 = .ok (.getfield 73, 3) := by decide +kernel
theorem dX1_waitFor_8 : decode cX1_waitFor 8 = .ok (.iconst 5, 1) := by decide +kernel
theorem dX1_waitFor_9 : decode cX1_waitFor 9 = .ok (.if_icmp .ne 10, 3) := by decide +kernel
theorem dX1_waitFor_12 : decode cX1_waitFor 12 = .ok (.aload_n 1, 1) := by decide +kernel
theorem dX1_waitFor_13 : decode cX1_waitFor 13 = .ok (.invokevirtual 144, 3) := by decide +kernel
theorem dX1_waitFor_16 : decode cX1_waitFor 16 = .ok (.goto 8, 3) := by decide +kernel
theorem dX1_waitFor_19 : decode cX1_waitFor 19 = .ok (.aload_n 1, 1) := by decide +kernel
theorem dX1_waitFor_20 : decode cX1_waitFor 20 = .ok (.iconst 4, 1) := by decide +kernel
theorem dX1_waitFor_21 : decode cX1_waitFor 21 = .ok (.putfield 73, 3) := by decide +kernel
theorem dX1_waitFor_24 : decode cX1_waitFor 24 = .ok (.return_, 1) := by decide +kernel
theorem dX1_endTurn_0 : decode cX1_endTurn 0 = .ok (.aload_n 1, 1) := by decide +kernel
theorem dX1_endTurn_1 : decode cX1_endTurn 1 = .ok (.getfield 73, 3) := by decide +kernel
theorem dX1_endTurn_4 : decode cX1_endTurn 4 = .ok (.ifCond .eq 4, 3) := by decide +kernel
theorem dX1_endTurn_7 : decode cX1_endTurn 7 = .ok (.return_, 1) := by decide +kernel
theorem dX1_endTurn_8 : decode cX1_endTurn 8 = .ok (.aload_n 1, 1) := by decide +kernel
theorem dX1_endTurn_9 : decode cX1_endTurn 9 = .ok (.invokevirtual 92, 3) := by decide +kernel
theorem dX1_endTurn_12 : decode cX1_endTurn 12 = .ok (.ifCond .eq 15, 3) := by decide +kernel
theorem dX1_endTurn_15 : decode cX1_endTurn 15 = .ok (.aload_n 0, 1) := by decide +kernel
theorem dX1_endTurn_16 : decode cX1_endTurn 16 = .ok (.getfield 38, 3) := by decide +kernel
theorem dX1_endTurn_19 : decode cX1_endTurn 19 = .ok (.aload_n 1, 1) := by decide +kernel
theorem dX1_endTurn_20 : decode cX1_endTurn 20 = .ok (.getfield 103, 3) := by decide +kernel
theorem dX1_endTurn_23 : decode cX1_endTurn 23 = .ok (.invokevirtual 106, 3) := by decide +kernel
theorem dX1_endTurn_26 : decode cX1_endTurn 26 = .ok (.return_, 1) := by decide +kernel
theorem dX1_endTurn_27 : decode cX1_endTurn 27 = .ok (.aload_n 1, 1) := by decide +kernel
theorem dX1_endTurn_28 : decode cX1_endTurn 28 = .ok (.iconst 5, 1) := by decide +kernel
theorem dX1_endTurn_29 : decode cX1_endTurn 29 = .ok (.putfield 73, 3) := by decide +kernel
theorem dX1_endTurn_32 : decode cX1_endTurn 32 = .ok (.iconst 0, 1) := by decide +kernel
theorem dX1_endTurn_33 : decode cX1_endTurn 33 = .ok (.istore_n 2, 1) := by decide +kernel
theorem dX1_endTurn_34 : decode cX1_endTurn 34 = .ok (.iload_n 2, 1) := by decide +kernel
theorem dX1_endTurn_35 : decode cX1_endTurn 35 = .ok (.aload_n 0, 1) := by decide +kernel
theorem dX1_endTurn_36 : decode cX1_endTurn 36 = .ok (.getfield 46, 3) := by decide +kernel
theorem dX1_endTurn_39 : decode cX1_endTurn 39 = .ok (.if_icmp .ge 46, 3) := by decide +kernel
theorem dX1_endTurn_42 : decode cX1_endTurn 42 = .ok (.aload_n 0, 1) := by decide +kernel
theorem dX1_endTurn_43 : decode cX1_endTurn 43 = .ok (.iload_n 2, 1) := by decide +kernel
theorem dX1_endTurn_44 : decode cX1_endTurn 44 = .ok (.invokevirtual 66, 3) := by decide +kernel
theorem dX1_endTurn_47 : decode cX1_endTurn 47 = .ok (.astore_n 3, 1) := by decide +kernel
theorem dX1_endTurn_48 : decode cX1_endTurn 48 = .ok (.aload_n 3, 1) := by decide +kernel
theorem dX1_endTurn_49 : decode cX1_endTurn 49 = .ok (.getfield 73, 3) := by decide +kernel
theorem dX1_endTurn_52 : decode cX1_endTurn 52 = .ok (.iconst 4, 1) := by decide +kernel
theorem dX1_endTurn_53 : decode cX1_endTurn 53 = .ok (.if_icmp .ne 26, 3) := by decide +kernel
theorem dX1_endTurn_56 : decode cX1_endTurn 56 = .ok (.aload_n 3, 1) := by decide +kernel
theorem dX1_endTurn_57 : decode cX1_endTurn 57 = .ok (.aload_n 3, 1) := by decide +kernel
theorem dX1_endTurn_58 : decode cX1_endTurn 58 = .ok (.getfield 115, 3) := by decide +kernel
theorem dX1_endTurn_61 : decode cX1_endTurn 61 = .ok (.invokevirtual 118, 3) := by decide +kernel
theorem dX1_endTurn_64 : decode cX1_endTurn 64 = .ok (.getfield 127, 3) := by decide +kernel
theorem dX1_endTurn_67 : decode cX1_endTurn 67 = .ok (.aload_n 1, 1) := by decide +kernel
theorem dX1_endTurn_68 : decode cX1_endTurn 68 = .ok (.getfield 103, 3) := by decide +kernel
theorem dX1_endTurn_71 : decode cX1_endTurn 71 = .ok (.if_icmp .ne 8, 3) := by decide +kernel
theorem dX1_endTurn_74 : decode cX1_endTurn 74 = .ok (.aload_n 0, 1) := by decide +kernel
theorem dX1_endTurn_75 : decode cX1_endTurn 75 = .ok (.aload_n 3, 1) := by decide +kernel
theorem dX1_endTurn_76 : decode cX1_endTurn 76 = .ok (.invokevirtual 112, 3) := by decide +kernel
theorem dX1_endTurn_79 : decode cX1_endTurn 79 = .ok (.iinc 2 1, 3) := by decide +kernel
theorem dX1_endTurn_82 : decode cX1_endTurn 82 = .ok (.goto (-48), 3) := by decide +kernel
theorem dX1_endTurn_85 : decode cX1_endTurn 85 = .ok (.return_, 1) := by decide +kernel
theorem dX2_init_0 : decode cX2_init 0 = .ok (.aload_n 0, 1) := by decide +kernel
theorem dX2_init_1 : decode cX2_init 1 = .ok (.invokespecial 3, 3) := by decide +kernel
theorem dX2_init_4 : decode cX2_init 4 = .ok (.aload_n 0, 1) := by decide +kernel
theorem dX2_init_5 : decode cX2_init 5 = .ok (.iconst 5, 1) := by decide +kernel
theorem dX2_init_6 : decode cX2_init 6 = .ok (.putfield 9, 3) := by decide +kernel
theorem dX2_init_9 : decode cX2_init 9 = .ok (.aload_n 0, 1) := by decide +kernel
theorem dX2_init_10 : decode cX2_init 10 = .ok (.bipush 12, 2) := by decide +kernel
theorem dX2_init_12 : decode cX2_init 12 = .ok (.anewarray 15, 3) := by decide +kernel
theorem dX2_init_15 : decode cX2_init 15 = .ok (.putfield 17, 3) := by decide +kernel
theorem dX2_init_18 : decode cX2_init 18 = .ok (.aload_n 0, 1) := by decide +kernel
theorem dX2_init_19 : decode cX2_init 19 = .ok (.new 15, 3) := by decide +kernel
theorem dX2_init_22 : decode cX2_init 22 = .ok (.dup, 1) := by decide +kernel
theorem dX2_init_23 : decode cX2_init 23 = .ok (.invokespecial 21, 3) := by decide +kernel
theorem dX2_init_26 : decode cX2_init 26 = .ok (.putfield 22, 3) := by decide +kernel
theorem dX2_init_29 : decode cX2_init 29 = .ok (.aload_n 0, 1) := by decide +kernel
theorem dX2_init_30 : decode cX2_init 30 = .ok (.iload_n 1, 1) := by decide +kernel
theorem dX2_init_31 : decode cX2_init 31 = .ok (.putfield 26, 3) := by decide +kernel
theorem dX2_init_34 : decode cX2_init 34 = .ok (.iconst 0, 1) := by decide +kernel
theorem dX2_init_35 : decode cX2_init 35 = .ok (.istore_n 2, 1) := by decide +kernel
theorem dX2_init_36 : decode cX2_init 36 = .ok (.iload_n 2, 1) := by decide +kernel
theorem dX2_init_37 : decode cX2_init 37 = .ok (.aload_n 0, 1) := by decide +kernel
theorem dX2_init_38 : decode cX2_init 38 = .ok (.getfield 17, 3) := by decide +kernel
theorem dX2_init_41 : decode cX2_init 41 = .ok (.arraylength, 1) := by decide +kernel
theorem dX2_init_42 : decode cX2_init 42 = .ok (.if_icmp .ge 22, 3) := by decide +kernel
theorem dX2_init_45 : decode cX2_init 45 = .ok (.aload_n 0, 1) := by decide +kernel
theorem dX2_init_46 : decode cX2_init 46 = .ok (.getfield 17, 3) := by decide +kernel
theorem dX2_init_49 : decode cX2_init 49 = .ok (.iload_n 2, 1) := by decide +kernel
theorem dX2_init_50 : decode cX2_init 50 = .ok (.new 15, 3) := by decide +kernel
theorem dX2_init_53 : decode cX2_init 53 = .ok (.dup, 1) := by decide +kernel
theorem dX2_init_54 : decode cX2_init 54 = .ok (.invokespecial 21, 3) := by decide +kernel
theorem dX2_init_57 : decode cX2_init 57 = .ok (.aastore, 1) := by decide +kernel
theorem dX2_init_58 : decode cX2_init 58 = .ok (.iinc 2 1, 3) := by decide +kernel
theorem dX2_init_61 : decode cX2_init 61 = .ok (.goto (-25), 3) := by decide +kernel
theorem dX2_init_64 : decode cX2_init 64 = .ok (.return_, 1) := by decide +kernel
theorem dX2_stepAt_0 : decode cX2_stepAt 0 = .ok (.iload_n 1, 1) := by decide +kernel
theorem dX2_stepAt_1 : decode cX2_stepAt 1 = .ok (.ifCond .lt 12, 3) := by decide +kernel
theorem dX2_stepAt_4 : decode cX2_stepAt 4 = .ok (.iload_n 1, 1) := by decide +kernel
theorem dX2_stepAt_5 : decode cX2_stepAt 5 = .ok (.aload_n 0, 1) := by decide +kernel
theorem dX2_stepAt_6 : decode cX2_stepAt 6 = .ok (.getfield 17, 3) := by decide +kernel
theorem dX2_stepAt_9 : decode cX2_stepAt 9 = .ok (.arraylength, 1) := by decide +kernel
theorem dX2_stepAt_10 : decode cX2_stepAt 10 = .ok (.if_icmp .lt 8, 3) := by decide +kernel
theorem dX2_stepAt_13 : decode cX2_stepAt 13 = .ok (.aload_n 0, 1) := by decide +kernel
theorem dX2_stepAt_14 : decode cX2_stepAt 14 = .ok (.getfield 22, 3) := by decide +kernel
theorem dX2_stepAt_17 : decode cX2_stepAt 17 = .ok (.areturn, 1) := by decide +kernel
theorem dX2_stepAt_18 : decode cX2_stepAt 18 = .ok (.aload_n 0, 1) := by decide +kernel
theorem dX2_stepAt_19 : decode cX2_stepAt 19 = .ok (.getfield 17, 3) := by decide +kernel
theorem dX2_stepAt_22 : decode cX2_stepAt 22 = .ok (.iload_n 1, 1) := by decide +kernel
theorem dX2_stepAt_23 : decode cX2_stepAt 23 = .ok (.aaload, 1) := by decide +kernel
theorem dX2_stepAt_24 : decode cX2_stepAt 24 = .ok (.astore_n 2, 1) := by decide +kernel
theorem dX2_stepAt_25 : decode cX2_stepAt 25 = .ok (.aload_n 2, 1) := by decide +kernel
theorem dX2_stepAt_26 : decode cX2_stepAt 26 = .ok (.ifnonnull 10, 3) := by decide +kernel
theorem dX2_stepAt_29 : decode cX2_stepAt 29 = .ok (.aload_n 0, 1) := by decide +kernel
theorem dX2_stepAt_30 : decode cX2_stepAt 30 = .ok (.getfield 22, 3) := by decide +kernel
theorem dX2_stepAt_33 : decode cX2_stepAt 33 = .ok (.goto 4, 3) := by decide +kernel
theorem dX2_stepAt_36 : decode cX2_stepAt 36 = .ok (.aload_n 2, 1) := by decide +kernel
theorem dX2_stepAt_37 : decode cX2_stepAt 37 = .ok (.areturn, 1) := by decide +kernel
theorem dX2_hasStepsLeft_0 : decode cX2_hasStepsLeft 0 = .ok (.aload_n 0, 1) := by decide +kernel
theorem dX2_hasStepsLeft_1 : decode cX2_hasStepsLeft 1 = .ok (.getfield 29, 3) := by decide +kernel
theorem dX2_hasStepsLeft_4 : decode cX2_hasStepsLeft 4 = .ok (.aload_n 0, 1) := by decide +kernel
theorem dX2_hasStepsLeft_5 : decode cX2_hasStepsLeft 5 = .ok (.getfield 32, 3) := by decide +kernel
theorem dX2_hasStepsLeft_8 : decode cX2_hasStepsLeft 8 = .ok (.if_icmp .ge 7, 3) := by decide +kernel
theorem dX2_hasStepsLeft_11 : decode cX2_hasStepsLeft 11 = .ok (.iconst 1, 1) := by decide +kernel
theorem dX2_hasStepsLeft_12 : decode cX2_hasStepsLeft 12 = .ok (.goto 4, 3) := by decide +kernel
theorem dX2_hasStepsLeft_15 : decode cX2_hasStepsLeft 15 = .ok (.iconst 0, 1) := by decide +kernel
theorem dX2_hasStepsLeft_16 : decode cX2_hasStepsLeft 16 = .ok (.ireturn, 1) := by decide +kernel
theorem dX2_moveOn_0 : decode cX2_moveOn 0 = .ok (.aload_n 0, 1) := by decide +kernel
theorem dX2_moveOn_1 : decode cX2_moveOn 1 = .ok (.dup, 1) := by decide +kernel
theorem dX2_moveOn_2 : decode cX2_moveOn 2 = .ok (.getfield 29, 3) := by decide +kernel
theorem dX2_moveOn_5 : decode cX2_moveOn 5 = .ok (.iconst 1, 1) := by decide +kernel
theorem dX2_moveOn_6 : decode cX2_moveOn 6 = .ok (.iadd, 1) := by decide +kernel
theorem dX2_moveOn_7 : decode cX2_moveOn 7 = .ok (.putfield 29, 3) := by decide +kernel
theorem dX2_moveOn_10 : decode cX2_moveOn 10 = .ok (.aload_n 0, 1) := by decide +kernel
theorem dX2_moveOn_11 : decode cX2_moveOn 11 = .ok (.dup, 1) := by decide +kernel
theorem dX2_moveOn_12 : decode cX2_moveOn 12 = .ok (.getfield 35, 3) := by decide +kernel
theorem dX2_moveOn_15 : decode cX2_moveOn 15 = .ok (.iconst 1, 1) := by decide +kernel
theorem dX2_moveOn_16 : decode cX2_moveOn 16 = .ok (.iadd, 1) := by decide +kernel
theorem dX2_moveOn_17 : decode cX2_moveOn 17 = .ok (.putfield 35, 3) := by decide +kernel
theorem dX2_moveOn_20 : decode cX2_moveOn 20 = .ok (.return_, 1) := by decide +kernel
theorem dX2_goBack_0 : decode cX2_goBack 0 = .ok (.aload_n 1, 1) := by decide +kernel
theorem dX2_goBack_1 : decode cX2_goBack 1 = .ok (.getfield 38, 3) := by decide +kernel
theorem dX2_goBack_4 : decode cX2_goBack 4 = .ok (.aload_n 1, 1) := by decide +kernel
theorem dX2_goBack_5 : decode cX2_goBack 5 = .ok (.getfield 41, 3) := by decide +kernel
theorem dX2_goBack_8 : decode cX2_goBack 8 = .ok (.if_icmp .ge 34, 3) := by decide +kernel
theorem dX2_goBack_11 : decode cX2_goBack 11 = .ok (.aload_n 1, 1) := by decide +kernel
theorem dX2_goBack_12 : decode cX2_goBack 12 = .ok (.dup, 1) := by decide +kernel
theorem dX2_goBack_13 : decode cX2_goBack 13 = .ok (.getfield 38, 3) := by decide +kernel
theorem dX2_goBack_16 : decode cX2_goBack 16 = .ok (.iconst 1, 1) := by decide +kernel
theorem dX2_goBack_17 : decode cX2_goBack 17 = .ok (.iadd, 1) := by decide +kernel
theorem dX2_goBack_18 : decode cX2_goBack 18 = .ok (.putfield 38, 3) := by decide +kernel
theorem dX2_goBack_21 : decode cX2_goBack 21 = .ok (.aload_n 0, 1) := by decide +kernel
theorem dX2_goBack_22 : decode cX2_goBack 22 = .ok (.aload_n 1, 1) := by decide +kernel
theorem dX2_goBack_23 : decode cX2_goBack 23 = .ok (.getfield 44, 3) := by decide +kernel
theorem dX2_goBack_26 : decode cX2_goBack 26 = .ok (.putfield 29, 3) := by decide +kernel
theorem dX2_goBack_29 : decode cX2_goBack 29 = .ok (.aload_n 0, 1) := by decide +kernel
theorem dX2_goBack_30 : decode cX2_goBack 30 = .ok (.dup, 1) := by decide +kernel
theorem dX2_goBack_31 : decode cX2_goBack 31 = .ok (.getfield 35, 3) := by decide +kernel
theorem dX2_goBack_34 : decode cX2_goBack 34 = .ok (.iconst 1, 1) := by decide +kernel
theorem dX2_goBack_35 : decode cX2_goBack 35 = .ok (.iadd, 1) := by decide +kernel
theorem dX2_goBack_36 : decode cX2_goBack 36 = .ok (.putfield 35, 3) := by decide +kernel
theorem dX2_goBack_39 : decode cX2_goBack 39 = .ok (.goto 12, 3) := by decide +kernel
theorem dX2_goBack_42 : decode cX2_goBack 42 = .ok (.aload_n 1, 1) := by decide +kernel
theorem dX2_goBack_43 : decode cX2_goBack 43 = .ok (.iconst 0, 1) := by decide +kernel
theorem dX2_goBack_44 : decode cX2_goBack 44 = .ok (.putfield 38, 3) := by decide +kernel
theorem dX2_goBack_47 : decode cX2_goBack 47 = .ok (.aload_n 0, 1) := by decide +kernel
theorem dX2_goBack_48 : decode cX2_goBack 48 = .ok (.invokevirtual 47, 3) := by decide +kernel
theorem dX2_goBack_51 : decode cX2_goBack 51 = .ok (.return_, 1) := by decide +kernel
theorem dX2_becomeLike_0 : decode cX2_becomeLike 0 = .ok (.aload_n 0, 1) := by decide +kernel
theorem dX2_becomeLike_1 : decode cX2_becomeLike 1 = .ok (.aload_n 1, 1) := by decide +kernel
theorem dX2_becomeLike_2 : decode cX2_becomeLike 2 = .ok (.getfield 9, 3) := by decide +kernel
theorem dX2_becomeLike_5 : decode cX2_becomeLike 5 = .ok (.putfield 9, 3) := by decide +kernel
theorem dX2_becomeLike_8 : decode cX2_becomeLike 8 = .ok (.aload_n 0, 1) := by decide +kernel
theorem dX2_becomeLike_9 : decode cX2_becomeLike 9 = .ok (.aload_n 1, 1) := by decide +kernel
theorem dX2_becomeLike_10 : decode cX2_becomeLike 10 = .ok (.getfield 29, 3) := by decide +kernel
theorem dX2_becomeLike_13 : decode cX2_becomeLike 13 = .ok (.putfield 29, 3) := by decide +kernel
theorem dX2_becomeLike_16 : decode cX2_becomeLike 16 = .ok (.aload_n 0, 1) := by decide +kernel
theorem dX2_becomeLike_17 : decode cX2_becomeLike 17 = .ok (.aload_n 1, 1) := by decide +kernel
theorem dX2_becomeLike_18 : decode cX2_becomeLike 18 = .ok (.getfield 50, 3) := by decide +kernel
theorem dX2_becomeLike_21 : decode cX2_becomeLike 21 = .ok (.putfield 50, 3) := by decide +kernel
theorem dX2_becomeLike_24 : decode cX2_becomeLike 24 = .ok (.aload_n 0, 1) := by decide +kernel
theorem dX2_becomeLike_25 : decode cX2_becomeLike 25 = .ok (.aload_n 1, 1) := by decide +kernel
theorem dX2_becomeLike_26 : decode cX2_becomeLike 26 = .ok (.getfield 35, 3) := by decide +kernel
theorem dX2_becomeLike_29 : decode cX2_becomeLike 29 = .ok (.putfield 35, 3) := by decide +kernel
theorem dX2_becomeLike_32 : decode cX2_becomeLike 32 = .ok (.aload_n 0, 1) := by decide +kernel
theorem dX2_becomeLike_33 : decode cX2_becomeLike 33 = .ok (.aload_n 1, 1) := by decide +kernel
theorem dX2_becomeLike_34 : decode cX2_becomeLike 34 = .ok (.getfield 53, 3) := by decide +kernel
theorem dX2_becomeLike_37 : decode cX2_becomeLike 37 = .ok (.putfield 53, 3) := by decide +kernel
theorem dX2_becomeLike_40 : decode cX2_becomeLike 40 = .ok (.aload_n 0, 1) := by decide +kernel
theorem dX2_becomeLike_41 : decode cX2_becomeLike 41 = .ok (.aload_n 1, 1) := by decide +kernel
theorem dX2_becomeLike_42 : decode cX2_becomeLike 42 = .ok (.getfield 56, 3) := by decide +kernel
theorem dX2_becomeLike_45 : decode cX2_becomeLike 45 = .ok (.putfield 56, 3) := by decide +kernel
theorem dX2_becomeLike_48 : decode cX2_becomeLike 48 = .ok (.aload_n 0, 1) := by decide +kernel
theorem dX2_becomeLike_49 : decode cX2_becomeLike 49 = .ok (.aload_n 1, 1) := by decide +kernel
theorem dX2_becomeLike_50 : decode cX2_becomeLike 50 = .ok (.getfield 32, 3) := by decide +kernel
theorem dX2_becomeLike_53 : decode cX2_becomeLike 53 = .ok (.putfield 32, 3) := by decide +kernel
theorem dX2_becomeLike_56 : decode cX2_becomeLike 56 = .ok (.iconst 0, 1) := by decide +kernel
theorem dX2_becomeLike_57 : decode cX2_becomeLike 57 = .ok (.istore_n 2, 1) := by decide +kernel
theorem dX2_becomeLike_58 : decode cX2_becomeLike 58 = .ok (.iload_n 2, 1) := by decide +kernel
theorem dX2_becomeLike_59 : decode cX2_becomeLike 59 = .ok (.aload_n 0, 1) := by decide +kernel
theorem dX2_becomeLike_60 : decode cX2_becomeLike 60 = .ok (.getfield 32, 3) := by decide +kernel
theorem dX2_becomeLike_63 : decode cX2_becomeLike 63 = .ok (.if_icmp .ge 22, 3) := by decide +kernel
theorem dX2_becomeLike_66 : decode cX2_becomeLike 66 = .ok (.aload_n 0, 1) := by decide +kernel
theorem dX2_becomeLike_67 : decode cX2_becomeLike 67 = .ok (.iload_n 2, 1) := by decide +kernel
theorem dX2_becomeLike_68 : decode cX2_becomeLike 68 = .ok (.invokevirtual 59, 3) := by decide +kernel
theorem dX2_becomeLike_71 : decode cX2_becomeLike 71 = .ok (.aload_n 1, 1) := by decide +kernel
theorem dX2_becomeLike_72 : decode cX2_becomeLike 72 = .ok (.iload_n 2, 1) := by decide +kernel
theorem dX2_becomeLike_73 : decode cX2_becomeLike 73 = .ok (.invokevirtual 59, 3) := by decide +kernel
theorem dX2_becomeLike_76 : decode cX2_becomeLike 76 = .ok (.invokevirtual 63, 3) := by decide +kernel
theorem dX2_becomeLike_79 : decode cX2_becomeLike 79 = .ok (.iinc 2 1, 3) := by decide +kernel
theorem dX2_becomeLike_82 : decode cX2_becomeLike 82 = .ok (.goto (-24), 3) := by decide +kernel
theorem dX2_becomeLike_85 : decode cX2_becomeLike 85 = .ok (.return_, 1) := by decide +kernel
theorem dX3_init_0 : decode cX3_init 0 = .ok (.aload_n 0, 1) := by decide +kernel
theorem dX3_init_1 : decode cX3_init 1 = .ok (.invokespecial 3, 3) := by decide +kernel
theorem dX3_init_4 : decode cX3_init 4 = .ok (.aload_n 0, 1) := by decide +kernel
theorem dX3_init_5 : decode cX3_init 5 = .ok (.bipush 8, 2) := by decide +kernel
theorem dX3_init_7 : decode cX3_init 7 = .ok (.newarray .int, 2) := by decide +kernel
theorem dX3_init_9 : decode cX3_init 9 = .ok (.putfield 9, 3) := by decide +kernel
theorem dX3_init_12 : decode cX3_init 12 = .ok (.return_, 1) := by decide +kernel
theorem dX3_look_0 : decode cX3_look 0 = .ok (.iload_n 1, 1) := by decide +kernel
theorem dX3_look_1 : decode cX3_look 1 = .ok (.ifCond .lt 29, 3) := by decide +kernel
theorem dX3_look_4 : decode cX3_look 4 = .ok (.iload_n 1, 1) := by decide +kernel
theorem dX3_look_5 : decode cX3_look 5 = .ok (.aload_n 0, 1) := by decide +kernel
theorem dX3_look_6 : decode cX3_look 6 = .ok (.getfield 15, 3) := by decide +kernel
theorem dX3_look_9 : decode cX3_look 9 = .ok (.if_icmp .ge 21, 3) := by decide +kernel
theorem dX3_look_12 : decode cX3_look 12 = .ok (.iload_n 1, 1) := by decide +kernel
theorem dX3_look_13 : decode cX3_look 13 = .ok (.aload_n 0, 1) := by decide +kernel
theorem dX3_look_14 : decode cX3_look 14 = .ok (.getfield 9, 3) := by decide +kernel
theorem dX3_look_17 : decode cX3_look 17 = .ok (.arraylength, 1) := by decide +kernel
theorem dX3_look_18 : decode cX3_look 18 = .ok (.if_icmp .ge 12, 3) := by decide +kernel
theorem dX3_look_21 : decode cX3_look 21 = .ok (.aload_n 0, 1) := by decide +kernel
theorem dX3_look_22 : decode cX3_look 22 = .ok (.getfield 9, 3) := by decide +kernel
theorem dX3_look_25 : decode cX3_look 25 = .ok (.iload_n 1, 1) := by decide +kernel
theorem dX3_look_26 : decode cX3_look 26 = .ok (.iaload, 1) := by decide +kernel
theorem dX3_look_27 : decode cX3_look 27 = .ok (.goto 4, 3) := by decide +kernel
theorem dX3_look_30 : decode cX3_look 30 = .ok (.iconst (-1), 1) := by decide +kernel
theorem dX3_look_31 : decode cX3_look 31 = .ok (.ireturn, 1) := by decide +kernel
theorem dX3_find_0 : decode cX3_find 0 = .ok (.iconst 0, 1) := by decide +kernel
theorem dX3_find_1 : decode cX3_find 1 = .ok (.istore_n 2, 1) := by decide +kernel
theorem dX3_find_2 : decode cX3_find 2 = .ok (.iload_n 2, 1) := by decide +kernel
theorem dX3_find_3 : decode cX3_find 3 = .ok (.aload_n 0, 1) := by decide +kernel
theorem dX3_find_4 : decode cX3_find 4 = .ok (.getfield 15, 3) := by decide +kernel
theorem dX3_find_7 : decode cX3_find 7 = .ok (.if_icmp .ge 30, 3) := by decide +kernel
theorem dX3_find_10 : decode cX3_find 10 = .ok (.iload_n 2, 1) := by decide +kernel
theorem dX3_find_11 : decode cX3_find 11 = .ok (.aload_n 0, 1) := by decide +kernel
theorem dX3_find_12 : decode cX3_find 12 = .ok (.getfield 9, 3) := by decide +kernel
theorem dX3_find_15 : decode cX3_find 15 = .ok (.arraylength, 1) := by decide +kernel
theorem dX3_find_16 : decode cX3_find 16 = .ok (.if_icmp .ge 21, 3) := by decide +kernel
theorem dX3_find_19 : decode cX3_find 19 = .ok (.aload_n 0, 1) := by decide +kernel
theorem dX3_find_20 : decode cX3_find 20 = .ok (.getfield 9, 3) := by decide +kernel
theorem dX3_find_23 : decode cX3_find 23 = .ok (.iload_n 2, 1) := by decide +kernel
theorem dX3_find_24 : decode cX3_find 24 = .ok (.iaload, 1) := by decide +kernel
theorem dX3_find_25 : decode cX3_find 25 = .ok (.iload_n 1, 1) := by decide +kernel
theorem dX3_find_26 : decode cX3_find 26 = .ok (.if_icmp .ne 5, 3) := by decide +kernel
theorem dX3_find_29 : decode cX3_find 29 = .ok (.iload_n 2, 1) := by decide +kernel
theorem dX3_find_30 : decode cX3_find 30 = .ok (.ireturn, 1) := by decide +kernel
theorem dX3_find_31 : decode cX3_find 31 = .ok (.iinc 2 1, 3) := by decide +kernel
theorem dX3_find_34 : decode cX3_find 34 = .ok (.goto (-32), 3) := by decide +kernel
theorem dX3_find_37 : decode cX3_find 37 = .ok (.iconst (-1), 1) := by decide +kernel
theorem dX3_find_38 : decode cX3_find 38 = .ok (.ireturn, 1) := by decide +kernel
theorem dX3_addLast_0 : decode cX3_addLast 0 = .ok (.aload_n 0, 1) := by decide +kernel
theorem dX3_addLast_1 : decode cX3_addLast 1 = .ok (.getfield 15, 3) := by decide +kernel
theorem dX3_addLast_4 : decode cX3_addLast 4 = .ok (.ifCond .lt 35, 3) := by decide +kernel
theorem dX3_addLast_7 : decode cX3_addLast 7 = .ok (.aload_n 0, 1) := by decide +kernel
theorem dX3_addLast_8 : decode cX3_addLast 8 = .ok (.getfield 15, 3) := by decide +kernel
theorem dX3_addLast_11 : decode cX3_addLast 11 = .ok (.aload_n 0, 1) := by decide +kernel
theorem dX3_addLast_12 : decode cX3_addLast 12 = .ok (.getfield 9, 3) := by decide +kernel
theorem dX3_addLast_15 : decode cX3_addLast 15 = .ok (.arraylength, 1) := by decide +kernel
theorem dX3_addLast_16 : decode cX3_addLast 16 = .ok (.if_icmp .ge 23, 3) := by decide +kernel
theorem dX3_addLast_19 : decode cX3_addLast 19 = .ok (.aload_n 0, 1) := by decide +kernel
theorem dX3_addLast_20 : decode cX3_addLast 20 = .ok (.getfield 9, 3) := by decide +kernel
theorem dX3_addLast_23 : decode cX3_addLast 23 = .ok (.aload_n 0, 1) := by decide +kernel
theorem dX3_addLast_24 : decode cX3_addLast 24 = .ok (.getfield 15, 3) := by decide +kernel
theorem dX3_addLast_27 : decode cX3_addLast 27 = .ok (.iload_n 1, 1) := by decide +kernel
theorem dX3_addLast_28 : decode cX3_addLast 28 = .ok (.iastore, 1) := by decide +kernel
theorem dX3_addLast_29 : decode cX3_addLast 29 = .ok (.aload_n 0, 1) := by decide +kernel
theorem dX3_addLast_30 : decode cX3_addLast 30 = .ok (.dup, 1) := by decide +kernel
theorem dX3_addLast_31 : decode cX3_addLast 31 = .ok (.getfield 15, 3) := by decide +kernel
theorem dX3_addLast_34 : decode cX3_addLast 34 = .ok (.iconst 1, 1) := by decide +kernel
theorem dX3_addLast_35 : decode cX3_addLast 35 = .ok (.iadd, 1) := by decide +kernel
theorem dX3_addLast_36 : decode cX3_addLast 36 = .ok (.putfield 15, 3) := by decide +kernel
theorem dX3_addLast_39 : decode cX3_addLast 39 = .ok (.return_, 1) := by decide +kernel
theorem dX3_takeFirst_0 : decode cX3_takeFirst 0 = .ok (.aload_n 0, 1) := by decide +kernel
theorem dX3_takeFirst_1 : decode cX3_takeFirst 1 = .ok (.getfield 15, 3) := by decide +kernel
theorem dX3_takeFirst_4 : decode cX3_takeFirst 4 = .ok (.ifCond .le 11, 3) := by decide +kernel
theorem dX3_takeFirst_7 : decode cX3_takeFirst 7 = .ok (.aload_n 0, 1) := by decide +kernel
theorem dX3_takeFirst_8 : decode cX3_takeFirst 8 = .ok (.getfield 9, 3) := by decide +kernel
theorem dX3_takeFirst_11 : decode cX3_takeFirst 11 = .ok (.arraylength, 1) := by decide +kernel
theorem dX3_takeFirst_12 : decode cX3_takeFirst 12 = .ok (.ifCond .ne 5, 3) := by decide +kernel
theorem dX3_takeFirst_15 : decode cX3_takeFirst 15 = .ok (.iconst (-1), 1) := by decide +kernel
theorem dX3_takeFirst_16 : decode cX3_takeFirst 16 = .ok (.ireturn, 1) := by decide +kernel
theorem dX3_takeFirst_17 : decode cX3_takeFirst 17 = .ok (.aload_n 0, 1) := by decide +kernel
theorem dX3_takeFirst_18 : decode cX3_takeFirst 18 = .ok (.getfield 9, 3) := by decide +kernel
theorem dX3_takeFirst_21 : decode cX3_takeFirst 21 = .ok (.iconst 0, 1) := by decide +kernel
theorem dX3_takeFirst_22 : decode cX3_takeFirst 22 = .ok (.iaload, 1) := by decide +kernel
theorem dX3_takeFirst_23 : decode cX3_takeFirst 23 = .ok (.istore_n 1, 1) := by decide +kernel
theorem dX3_takeFirst_24 : decode cX3_takeFirst 24 = .ok (.iconst 1, 1) := by decide +kernel
theorem dX3_takeFirst_25 : decode cX3_takeFirst 25 = .ok (.istore_n 2, 1) := by decide +kernel
theorem dX3_takeFirst_26 : decode cX3_takeFirst 26 = .ok (.iload_n 2, 1) := by decide +kernel
theorem dX3_takeFirst_27 : decode cX3_takeFirst 27 = .ok (.aload_n 0, 1) := by decide +kernel
theorem dX3_takeFirst_28 : decode cX3_takeFirst 28 = .ok (.getfield 15, 3) := by decide +kernel
theorem dX3_takeFirst_31 : decode cX3_takeFirst 31 = .ok (.if_icmp .ge 32, 3) := by decide +kernel
theorem dX3_takeFirst_34 : decode cX3_takeFirst 34 = .ok (.iload_n 2, 1) := by decide +kernel
theorem dX3_takeFirst_35 : decode cX3_takeFirst 35 = .ok (.aload_n 0, 1) := by decide +kernel
theorem dX3_takeFirst_36 : decode cX3_takeFirst 36 = .ok (.getfield 9, 3) := by decide +kernel
theorem dX3_takeFirst_39 : decode cX3_takeFirst 39 = .ok (.arraylength, 1) := by decide +kernel
theorem dX3_takeFirst_40 : decode cX3_takeFirst 40 = .ok (.if_icmp .ge 23, 3) := by decide +kernel
theorem dX3_takeFirst_43 : decode cX3_takeFirst 43 = .ok (.aload_n 0, 1) := by decide +kernel
theorem dX3_takeFirst_44 : decode cX3_takeFirst 44 = .ok (.getfield 9, 3) := by decide +kernel
theorem dX3_takeFirst_47 : decode cX3_takeFirst 47 = .ok (.iload_n 2, 1) := by decide +kernel
theorem dX3_takeFirst_48 : decode cX3_takeFirst 48 = .ok (.iconst 1, 1) := by decide +kernel
theorem dX3_takeFirst_49 : decode cX3_takeFirst 49 = .ok (.isub, 1) := by decide +kernel
theorem dX3_takeFirst_50 : decode cX3_takeFirst 50 = .ok (.aload_n 0, 1) := by decide +kernel
theorem dX3_takeFirst_51 : decode cX3_takeFirst 51 = .ok (.getfield 9, 3) := by decide +kernel
theorem dX3_takeFirst_54 : decode cX3_takeFirst 54 = .ok (.iload_n 2, 1) := by decide +kernel
theorem dX3_takeFirst_55 : decode cX3_takeFirst 55 = .ok (.iaload, 1) := by decide +kernel
theorem dX3_takeFirst_56 : decode cX3_takeFirst 56 = .ok (.iastore, 1) := by decide +kernel
theorem dX3_takeFirst_57 : decode cX3_takeFirst 57 = .ok (.iinc 2 1, 3) := by decide +kernel
theorem dX3_takeFirst_60 : decode cX3_takeFirst 60 = .ok (.goto (-34), 3) := by decide +kernel
theorem dX3_takeFirst_63 : decode cX3_takeFirst 63 = .ok (.aload_n 0, 1) := by decide +kernel
theorem dX3_takeFirst_64 : decode cX3_takeFirst 64 = .ok (.dup, 1) := by decide +kernel
theorem dX3_takeFirst_65 : decode cX3_takeFirst 65 = .ok (.getfield 15, 3) := by decide +kernel
theorem dX3_takeFirst_68 : decode cX3_takeFirst 68 = .ok (.iconst 1, 1) := by decide +kernel
theorem dX3_takeFirst_69 : decode cX3_takeFirst 69 = .ok (.isub, 1) := by decide +kernel
theorem dX3_takeFirst_70 : decode cX3_takeFirst 70 = .ok (.putfield 15, 3) := by decide +kernel
theorem dX3_takeFirst_73 : decode cX3_takeFirst 73 = .ok (.iload_n 1, 1) := by decide +kernel
theorem dX3_takeFirst_74 : decode cX3_takeFirst 74 = .ok (.ireturn, 1) := by decide +kernel
theorem dX3_becomeLike_0 : decode cX3_becomeLike 0 = .ok (.aload_n 0, 1) := by decide +kernel
theorem dX3_becomeLike_1 : decode cX3_becomeLike 1 = .ok (.aload_n 1, 1) := by decide +kernel
theorem dX3_becomeLike_2 : decode cX3_becomeLike 2 = .ok (.getfield 15, 3) := by decide +kernel
theorem dX3_becomeLike_5 : decode cX3_becomeLike 5 = .ok (.putfield 15, 3) := by decide +kernel
theorem dX3_becomeLike_8 : decode cX3_becomeLike 8 = .ok (.iconst 0, 1) := by decide +kernel
theorem dX3_becomeLike_9 : decode cX3_becomeLike 9 = .ok (.istore_n 2, 1) := by decide +kernel
theorem dX3_becomeLike_10 : decode cX3_becomeLike 10 = .ok (.iload_n 2, 1) := by decide +kernel
theorem dX3_becomeLike_11 : decode cX3_becomeLike 11 = .ok (.aload_n 0, 1) := by decide +kernel
theorem dX3_becomeLike_12 : decode cX3_becomeLike 12 = .ok (.getfield 9, 3) := by decide +kernel
theorem dX3_becomeLike_15 : decode cX3_becomeLike 15 = .ok (.arraylength, 1) := by decide +kernel
theorem dX3_becomeLike_16 : decode cX3_becomeLike 16 = .ok (.if_icmp .ge 20, 3) := by decide +kernel
theorem dX3_becomeLike_19 : decode cX3_becomeLike 19 = .ok (.aload_n 0, 1) := by decide +kernel
theorem dX3_becomeLike_20 : decode cX3_becomeLike 20 = .ok (.getfield 9, 3) := by decide +kernel
theorem dX3_becomeLike_23 : decode cX3_becomeLike 23 = .ok (.iload_n 2, 1) := by decide +kernel
theorem dX3_becomeLike_24 : decode cX3_becomeLike 24 = .ok (.aload_n 1, 1) := by decide +kernel
theorem dX3_becomeLike_25 : decode cX3_becomeLike 25 = .ok (.iload_n 2, 1) := by decide +kernel
theorem dX3_becomeLike_26 : decode cX3_becomeLike 26 = .ok (.invokevirtual 19, 3) := by decide +kernel
theorem dX3_becomeLike_29 : decode cX3_becomeLike 29 = .ok (.iastore, 1) := by decide +kernel
theorem dX3_becomeLike_30 : decode cX3_becomeLike 30 = .ok (.iinc 2 1, 3) := by decide +kernel
theorem dX3_becomeLike_33 : decode cX3_becomeLike 33 = .ok (.goto (-23), 3) := by decide +kernel
theorem dX3_becomeLike_36 : decode cX3_becomeLike 36 = .ok (.return_, 1) := by decide +kernel
theorem dX4_init_0 : decode cX4_init 0 = .ok (.aload_n 0, 1) := by decide +kernel
theorem dX4_init_1 : decode cX4_init 1 = .ok (.invokespecial 3, 3) := by decide +kernel
theorem dX4_init_4 : decode cX4_init 4 = .ok (.aload_n 0, 1) := by decide +kernel
theorem dX4_init_5 : decode cX4_init 5 = .ok (.iconst 3, 1) := by decide +kernel
theorem dX4_init_6 : decode cX4_init 6 = .ok (.putfield 9, 3) := by decide +kernel
theorem dX4_init_9 : decode cX4_init 9 = .ok (.return_, 1) := by decide +kernel
theorem dX4_describe_0 : decode cX4_describe 0 = .ok (.aload_n 0, 1) := by decide +kernel
theorem dX4_describe_1 : decode cX4_describe 1 = .ok (.iload_n 1, 1) := by decide +kernel
theorem dX4_describe_2 : decode cX4_describe 2 = .ok (.putfield 9, 3) := by decide +kernel
theorem dX4_describe_5 : decode cX4_describe 5 = .ok (.aload_n 0, 1) := by decide +kernel
theorem dX4_describe_6 : decode cX4_describe 6 = .ok (.iload_n 2, 1) := by decide +kernel
theorem dX4_describe_7 : decode cX4_describe 7 = .ok (.putfield 15, 3) := by decide +kernel
theorem dX4_describe_10 : decode cX4_describe 10 = .ok (.aload_n 0, 1) := by decide +kernel
theorem dX4_describe_11 : decode cX4_describe 11 = .ok (.iload_n 3, 1) := by decide +kernel
theorem dX4_describe_12 : decode cX4_describe 12 = .ok (.putfield 18, 3) := by decide +kernel
theorem dX4_describe_15 : decode cX4_describe 15 = .ok (.return_, 1) := by decide +kernel
theorem dX4_becomeLike_0 : decode cX4_becomeLike 0 = .ok (.aload_n 0, 1) := by decide +kernel
theorem dX4_becomeLike_1 : decode cX4_becomeLike 1 = .ok (.aload_n 1, 1) := by decide +kernel
theorem dX4_becomeLike_2 : decode cX4_becomeLike 2 = .ok (.getfield 9, 3) := by decide +kernel
theorem dX4_becomeLike_5 : decode cX4_becomeLike 5 = .ok (.putfield 9, 3) := by decide +kernel
theorem dX4_becomeLike_8 : decode cX4_becomeLike 8 = .ok (.aload_n 0, 1) := by decide +kernel
theorem dX4_becomeLike_9 : decode cX4_becomeLike 9 = .ok (.aload_n 1, 1) := by decide +kernel
theorem dX4_becomeLike_10 : decode cX4_becomeLike 10 = .ok (.getfield 15, 3) := by decide +kernel
theorem dX4_becomeLike_13 : decode cX4_becomeLike 13 = .ok (.putfield 15, 3) := by decide +kernel
theorem dX4_becomeLike_16 : decode cX4_becomeLike 16 = .ok (.aload_n 0, 1) := by decide +kernel
theorem dX4_becomeLike_17 : decode cX4_becomeLike 17 = .ok (.aload_n 1, 1) := by decide +kernel
theorem dX4_becomeLike_18 : decode cX4_becomeLike 18 = .ok (.getfield 18, 3) := by decide +kernel
theorem dX4_becomeLike_21 : decode cX4_becomeLike 21 = .ok (.putfield 18, 3) := by decide +kernel
theorem dX4_becomeLike_24 : decode cX4_becomeLike 24 = .ok (.aload_n 0, 1) := by decide +kernel
theorem dX4_becomeLike_25 : decode cX4_becomeLike 25 = .ok (.aload_n 1, 1) := by decide +kernel
theorem dX4_becomeLike_26 : decode cX4_becomeLike 26 = .ok (.getfield 21, 3) := by decide +kernel
theorem dX4_becomeLike_29 : decode cX4_becomeLike 29 = .ok (.putfield 21, 3) := by decide +kernel
theorem dX4_becomeLike_32 : decode cX4_becomeLike 32 = .ok (.return_, 1) := by decide +kernel
theorem dX5_init_0 : decode cX5_init 0 = .ok (.aload_n 0, 1) := by decide +kernel
theorem dX5_init_1 : decode cX5_init 1 = .ok (.invokespecial 1, 3) := by decide +kernel
theorem dX5_init_4 : decode cX5_init 4 = .ok (.aload_n 0, 1) := by decide +kernel
theorem dX5_init_5 : decode cX5_init 5 = .ok (.new 7, 3) := by decide +kernel
theorem dX5_init_8 : decode cX5_init 8 = .ok (.dup, 1) := by decide +kernel
theorem dX5_init_9 : decode cX5_init 9 = .ok (.invokespecial 9, 3) := by decide +kernel
theorem dX5_init_12 : decode cX5_init 12 = .ok (.putfield 10, 3) := by decide +kernel
theorem dX5_init_15 : decode cX5_init 15 = .ok (.aload_n 0, 1) := by decide +kernel
theorem dX5_init_16 : decode cX5_init 16 = .ok (.new 7, 3) := by decide +kernel
theorem dX5_init_19 : decode cX5_init 19 = .ok (.dup, 1) := by decide +kernel
theorem dX5_init_20 : decode cX5_init 20 = .ok (.invokespecial 9, 3) := by decide +kernel
theorem dX5_init_23 : decode cX5_init 23 = .ok (.putfield 16, 3) := by decide +kernel
theorem dX5_init_26 : decode cX5_init 26 = .ok (.return_, 1) := by decide +kernel
theorem dX5_addChannel_0 : decode cX5_addChannel 0 = .ok (.iload_n 1, 1) := by decide +kernel
theorem dX5_addChannel_1 : decode cX5_addChannel 1 = .ok (.iconst 1, 1) := by decide +kernel
theorem dX5_addChannel_2 : decode cX5_addChannel 2 = .ok (.if_icmp .lt 8, 3) := by decide +kernel
theorem dX5_addChannel_5 : decode cX5_addChannel 5 = .ok (.iload_n 1, 1) := by decide +kernel
theorem dX5_addChannel_6 : decode cX5_addChannel 6 = .ok (.iconst 4, 1) := by decide +kernel
theorem dX5_addChannel_7 : decode cX5_addChannel 7 = .ok (.if_icmp .le 13, 3) := by decide +kernel
theorem dX5_addChannel_10 : decode cX5_addChannel 10 = .ok (.new 19, 3) := by decide +kernel
theorem dX5_addChannel_13 : decode cX5_addChannel 13 = .ok (.dup, 1) := by decide +kernel
theorem dX5_addChannel_14 : decode cX5_addChannel 14 = .ok (.ldc 21, 2) := by decide +kernel
theorem dX5_addChannel_16 : decode cX5_addChannel 16 = .ok (.invokespecial 23, 3) := by decide +kernel
theorem dX5_addChannel_19 : decode cX5_addChannel 19 = .ok (.athrow, 1) := by decide +kernel
theorem dX5_addChannel_20 : decode cX5_addChannel 20 = .ok (.aload_n 0, 1) := by decide +kernel
theorem dX5_addChannel_21 : decode cX5_addChannel 21 = .ok (.getfield 10, 3) := by decide +kernel
theorem dX5_addChannel_24 : decode cX5_addChannel 24 = .ok (.getfield 26, 3) := by decide +kernel
theorem dX5_addChannel_27 : decode cX5_addChannel 27 = .ok (.iconst 4, 1) := by decide +kernel
theorem dX5_addChannel_28 : decode cX5_addChannel 28 = .ok (.if_icmp .lt 13, 3) := by decide +kernel
theorem dX5_addChannel_31 : decode cX5_addChannel 31 = .ok (.new 30, 3) := by decide +kernel
theorem dX5_addChannel_34 : decode cX5_addChannel 34 = .ok (.dup, 1) := by decide +kernel
theorem dX5_addChannel_35 : decode cX5_addChannel 35 = .ok (.ldc 32, 2) := by decide +kernel
theorem dX5_addChannel_37 : decode cX5_addChannel 37 = .ok (.invokespecial 34, 3) := by decide +kernel
theorem dX5_addChannel_40 : decode cX5_addChannel 40 = .ok (.athrow, 1) := by decide +kernel
theorem dX5_addChannel_41 : decode cX5_addChannel 41 = .ok (.aload_n 0, 1) := by decide +kernel
theorem dX5_addChannel_42 : decode cX5_addChannel 42 = .ok (.getfield 10, 3) := by decide +kernel
theorem dX5_addChannel_45 : decode cX5_addChannel 45 = .ok (.getfield 26, 3) := by decide +kernel
theorem dX5_addChannel_48 : decode cX5_addChannel 48 = .ok (.istore_n 2, 1) := by decide +kernel
theorem dX5_addChannel_49 : decode cX5_addChannel 49 = .ok (.aload_n 0, 1) := by decide +kernel
theorem dX5_addChannel_50 : decode cX5_addChannel 50 = .ok (.getfield 10, 3) := by decide +kernel
theorem dX5_addChannel_53 : decode cX5_addChannel 53 = .ok (.iload_n 2, 1) := by decide +kernel
theorem dX5_addChannel_54 : decode cX5_addChannel 54 = .ok (.invokevirtual 35, 3) := by decide +kernel
theorem dX5_addChannel_57 : decode cX5_addChannel 57 = .ok (.iload_n 1, 1) := by decide +kernel
theorem dX5_addChannel_58 : decode cX5_addChannel 58 = .ok (.putfield 39, 3) := by decide +kernel
theorem dX5_addChannel_61 : decode cX5_addChannel 61 = .ok (.aload_n 0, 1) := by decide +kernel
theorem dX5_addChannel_62 : decode cX5_addChannel 62 = .ok (.getfield 10, 3) := by decide +kernel
theorem dX5_addChannel_65 : decode cX5_addChannel 65 = .ok (.dup, 1) := by decide +kernel
theorem dX5_addChannel_66 : decode cX5_addChannel 66 = .ok (.getfield 26, 3) := by decide +kernel
theorem dX5_addChannel_69 : decode cX5_addChannel 69 = .ok (.iconst 1, 1) := by decide +kernel
theorem dX5_addChannel_70 : decode cX5_addChannel 70 = .ok (.iadd, 1) := by decide +kernel
theorem dX5_addChannel_71 : decode cX5_addChannel 71 = .ok (.putfield 26, 3) := by decide +kernel
theorem dX5_addChannel_74 : decode cX5_addChannel 74 = .ok (.iload_n 2, 1) := by decide +kernel
theorem dX5_addChannel_75 : decode cX5_addChannel 75 = .ok (.ireturn, 1) := by decide +kernel
theorem dX5_addFiber_0 : decode cX5_addFiber 0 = .ok (.aload_n 0, 1) := by decide +kernel
theorem dX5_addFiber_1 : decode cX5_addFiber 1 = .ok (.getfield 10, 3) := by decide +kernel
theorem dX5_addFiber_4 : decode cX5_addFiber 4 = .ok (.getfield 44, 3) := by decide +kernel
theorem dX5_addFiber_7 : decode cX5_addFiber 7 = .ok (.bipush 8, 2) := by decide +kernel
theorem dX5_addFiber_9 : decode cX5_addFiber 9 = .ok (.if_icmp .lt 13, 3) := by decide +kernel
theorem dX5_addFiber_12 : decode cX5_addFiber 12 = .ok (.new 30, 3) := by decide +kernel
theorem dX5_addFiber_15 : decode cX5_addFiber 15 = .ok (.dup, 1) := by decide +kernel
theorem dX5_addFiber_16 : decode cX5_addFiber 16 = .ok (.ldc 47, 2) := by decide +kernel
theorem dX5_addFiber_18 : decode cX5_addFiber 18 = .ok (.invokespecial 34, 3) := by decide +kernel
theorem dX5_addFiber_21 : decode cX5_addFiber 21 = .ok (.athrow, 1) := by decide +kernel
theorem dX5_addFiber_22 : decode cX5_addFiber 22 = .ok (.aload_n 0, 1) := by decide +kernel
theorem dX5_addFiber_23 : decode cX5_addFiber 23 = .ok (.getfield 10, 3) := by decide +kernel
theorem dX5_addFiber_26 : decode cX5_addFiber 26 = .ok (.getfield 44, 3) := by decide +kernel
theorem dX5_addFiber_29 : decode cX5_addFiber 29 = .ok (.istore_n 1, 1) := by decide +kernel
theorem dX5_addFiber_30 : decode cX5_addFiber 30 = .ok (.aload_n 0, 1) := by decide +kernel
theorem dX5_addFiber_31 : decode cX5_addFiber 31 = .ok (.getfield 10, 3) := by decide +kernel
theorem dX5_addFiber_34 : decode cX5_addFiber 34 = .ok (.dup, 1) := by decide +kernel
theorem dX5_addFiber_35 : decode cX5_addFiber 35 = .ok (.getfield 44, 3) := by decide +kernel
theorem dX5_addFiber_38 : decode cX5_addFiber 38 = .ok (.iconst 1, 1) := by decide +kernel
theorem dX5_addFiber_39 : decode cX5_addFiber 39 = .ok (.iadd, 1) := by decide +kernel
theorem dX5_addFiber_40 : decode cX5_addFiber 40 = .ok (.putfield 44, 3) := by decide +kernel
theorem dX5_addFiber_43 : decode cX5_addFiber 43 = .ok (.iload_n 1, 1) := by decide +kernel
theorem dX5_addFiber_44 : decode cX5_addFiber 44 = .ok (.ireturn, 1) := by decide +kernel
theorem dX5_addStep_0 : decode cX5_addStep 0 = .ok (.aload_n 0, 1) := by decide +kernel
theorem dX5_addStep_1 : decode cX5_addStep 1 = .ok (.iload_n 1, 1) := by decide +kernel
theorem dX5_addStep_2 : decode cX5_addStep 2 = .ok (.invokevirtual 49, 3) := by decide +kernel
theorem dX5_addStep_5 : decode cX5_addStep 5 = .ok (.aload_n 0, 1) := by decide +kernel
theorem dX5_addStep_6 : decode cX5_addStep 6 = .ok (.iload_n 1, 1) := by decide +kernel
theorem dX5_addStep_7 : decode cX5_addStep 7 = .ok (.iload_n 2, 1) := by decide +kernel
theorem dX5_addStep_8 : decode cX5_addStep 8 = .ok (.iload_n 3, 1) := by decide +kernel
theorem dX5_addStep_9 : decode cX5_addStep 9 = .ok (.iload 4, 2) := by decide +kernel
theorem dX5_addStep_11 : decode cX5_addStep 11 = .ok (.invokevirtual 53, 3) := by decide +kernel
theorem dX5_addStep_14 : decode cX5_addStep 14 = .ok (.ifCond .ne 13, 3) := by decide +kernel
theorem dX5_addStep_17 : decode cX5_addStep 17 = .ok (.new 19, 3) := by decide +kernel
theorem dX5_addStep_20 : decode cX5_addStep 20 = .ok (.dup, 1) := by decide +kernel
theorem dX5_addStep_21 : decode cX5_addStep 21 = .ok (.ldc 57, 2) := by decide +kernel
theorem dX5_addStep_23 : decode cX5_addStep 23 = .ok (.invokespecial 23, 3) := by decide +kernel
theorem dX5_addStep_26 : decode cX5_addStep 26 = .ok (.athrow, 1) := by decide +kernel
theorem dX5_addStep_27 : decode cX5_addStep 27 = .ok (.aload_n 0, 1) := by decide +kernel
theorem dX5_addStep_28 : decode cX5_addStep 28 = .ok (.getfield 10, 3) := by decide +kernel
theorem dX5_addStep_31 : decode cX5_addStep 31 = .ok (.iload_n 1, 1) := by decide +kernel
theorem dX5_addStep_32 : decode cX5_addStep 32 = .ok (.invokevirtual 59, 3) := by decide +kernel
theorem dX5_addStep_35 : decode cX5_addStep 35 = .ok (.astore 5, 2) := by decide +kernel
theorem dX5_addStep_37 : decode cX5_addStep 37 = .ok (.aload 5, 2) := by decide +kernel
theorem dX5_addStep_39 : decode cX5_addStep 39 = .ok (.getfield 63, 3) := by decide +kernel
theorem dX5_addStep_42 : decode cX5_addStep 42 = .ok (.bipush 12, 2) := by decide +kernel
theorem dX5_addStep_44 : decode cX5_addStep 44 = .ok (.if_icmp .lt 13, 3) := by decide +kernel
theorem dX5_addStep_47 : decode cX5_addStep 47 = .ok (.new 30, 3) := by decide +kernel
theorem dX5_addStep_50 : decode cX5_addStep 50 = .ok (.dup, 1) := by decide +kernel
theorem dX5_addStep_51 : decode cX5_addStep 51 = .ok (.ldc 68, 2) := by decide +kernel
theorem dX5_addStep_53 : decode cX5_addStep 53 = .ok (.invokespecial 34, 3) := by decide +kernel
theorem dX5_addStep_56 : decode cX5_addStep 56 = .ok (.athrow, 1) := by decide +kernel
theorem dX5_addStep_57 : decode cX5_addStep 57 = .ok (.aload 5, 2) := by decide +kernel
theorem dX5_addStep_59 : decode cX5_addStep 59 = .ok (.getfield 63, 3) := by decide +kernel
theorem dX5_addStep_62 : decode cX5_addStep 62 = .ok (.istore 6, 2) := by decide +kernel
theorem dX5_addStep_64 : decode cX5_addStep 64 = .ok (.aload 5, 2) := by decide +kernel
theorem dX5_addStep_66 : decode cX5_addStep 66 = .ok (.iload 6, 2) := by decide +kernel
theorem dX5_addStep_68 : decode cX5_addStep 68 = .ok (.invokevirtual 70, 3) := by decide +kernel
theorem dX5_addStep_71 : decode cX5_addStep 71 = .ok (.iload_n 2, 1) := by decide +kernel
theorem dX5_addStep_72 : decode cX5_addStep 72 = .ok (.iload_n 3, 1) := by decide +kernel
theorem dX5_addStep_73 : decode cX5_addStep 73 = .ok (.iload 4, 2) := by decide +kernel
theorem dX5_addStep_75 : decode cX5_addStep 75 = .ok (.invokevirtual 74, 3) := by decide +kernel
theorem dX5_addStep_78 : decode cX5_addStep 78 = .ok (.aload 5, 2) := by decide +kernel
theorem dX5_addStep_80 : decode cX5_addStep 80 = .ok (.dup, 1) := by decide +kernel
theorem dX5_addStep_81 : decode cX5_addStep 81 = .ok (.getfield 63, 3) := by decide +kernel
theorem dX5_addStep_84 : decode cX5_addStep 84 = .ok (.iconst 1, 1) := by decide +kernel
theorem dX5_addStep_85 : decode cX5_addStep 85 = .ok (.iadd, 1) := by decide +kernel
theorem dX5_addStep_86 : decode cX5_addStep 86 = .ok (.putfield 63, 3) := by decide +kernel
theorem dX5_addStep_89 : decode cX5_addStep 89 = .ok (.aload 5, 2) := by decide +kernel
theorem dX5_addStep_91 : decode cX5_addStep 91 = .ok (.getfield 80, 3) := by decide +kernel
theorem dX5_addStep_94 : decode cX5_addStep 94 = .ok (.iconst 5, 1) := by decide +kernel
theorem dX5_addStep_95 : decode cX5_addStep 95 = .ok (.if_icmp .ne 12, 3) := by decide +kernel
theorem dX5_addStep_98 : decode cX5_addStep 98 = .ok (.aload_n 0, 1) := by decide +kernel
theorem dX5_addStep_99 : decode cX5_addStep 99 = .ok (.getfield 10, 3) := by decide +kernel
theorem dX5_addStep_102 : decode cX5_addStep 102 = .ok (.aload 5, 2) := by decide +kernel
theorem dX5_addStep_104 : decode cX5_addStep 104 = .ok (.invokevirtual 83, 3) := by decide +kernel
theorem dX5_addStep_107 : decode cX5_addStep 107 = .ok (.iload 6, 2) := by decide +kernel
theorem dX5_addStep_109 : decode cX5_addStep 109 = .ok (.ireturn, 1) := by decide +kernel
theorem dX5_pour_0 : decode cX5_pour 0 = .ok (.aload_n 0, 1) := by decide +kernel
theorem dX5_pour_1 : decode cX5_pour 1 = .ok (.iload_n 1, 1) := by decide +kernel
theorem dX5_pour_2 : decode cX5_pour 2 = .ok (.invokevirtual 87, 3) := by decide +kernel
theorem dX5_pour_5 : decode cX5_pour 5 = .ok (.aload_n 0, 1) := by decide +kernel
theorem dX5_pour_6 : decode cX5_pour 6 = .ok (.iload_n 2, 1) := by decide +kernel
theorem dX5_pour_7 : decode cX5_pour 7 = .ok (.invokevirtual 90, 3) := by decide +kernel
theorem dX5_pour_10 : decode cX5_pour 10 = .ok (.ifCond .ne 13, 3) := by decide +kernel
theorem dX5_pour_13 : decode cX5_pour 13 = .ok (.new 19, 3) := by decide +kernel
theorem dX5_pour_16 : decode cX5_pour 16 = .ok (.dup, 1) := by decide +kernel
theorem dX5_pour_17 : decode cX5_pour 17 = .ok (.ldc 94, 2) := by decide +kernel
theorem dX5_pour_19 : decode cX5_pour 19 = .ok (.invokespecial 23, 3) := by decide +kernel
theorem dX5_pour_22 : decode cX5_pour 22 = .ok (.athrow, 1) := by decide +kernel
theorem dX5_pour_23 : decode cX5_pour 23 = .ok (.aload_n 0, 1) := by decide +kernel
theorem dX5_pour_24 : decode cX5_pour 24 = .ok (.getfield 10, 3) := by decide +kernel
theorem dX5_pour_27 : decode cX5_pour 27 = .ok (.iload_n 1, 1) := by decide +kernel
theorem dX5_pour_28 : decode cX5_pour 28 = .ok (.invokevirtual 35, 3) := by decide +kernel
theorem dX5_pour_31 : decode cX5_pour 31 = .ok (.astore_n 3, 1) := by decide +kernel
theorem dX5_pour_32 : decode cX5_pour 32 = .ok (.aload_n 3, 1) := by decide +kernel
theorem dX5_pour_33 : decode cX5_pour 33 = .ok (.invokevirtual 96, 3) := by decide +kernel
theorem dX5_pour_36 : decode cX5_pour 36 = .ok (.ifCond .ne 13, 3) := by decide +kernel
theorem dX5_pour_39 : decode cX5_pour 39 = .ok (.new 30, 3) := by decide +kernel
theorem dX5_pour_42 : decode cX5_pour 42 = .ok (.dup, 1) := by decide +kernel
theorem dX5_pour_43 : decode cX5_pour 43 = .ok (.ldc 100, 2) := by decide +kernel
theorem dX5_pour_45 : decode cX5_pour 45 = .ok (.invokespecial 34, 3) := by decide +kernel
theorem dX5_pour_48 : decode cX5_pour 48 = .ok (.athrow, 1) := by decide +kernel
theorem dX5_pour_49 : decode cX5_pour 49 = .ok (.aload_n 3, 1) := by decide +kernel
theorem dX5_pour_50 : decode cX5_pour 50 = .ok (.getfield 102, 3) := by decide +kernel
theorem dX5_pour_53 : decode cX5_pour 53 = .ok (.iload_n 2, 1) := by decide +kernel
theorem dX5_pour_54 : decode cX5_pour 54 = .ok (.invokevirtual 106, 3) := by decide +kernel
theorem dX5_pour_57 : decode cX5_pour 57 = .ok (.aload_n 0, 1) := by decide +kernel
theorem dX5_pour_58 : decode cX5_pour 58 = .ok (.getfield 10, 3) := by decide +kernel
theorem dX5_pour_61 : decode cX5_pour 61 = .ok (.aload_n 3, 1) := by decide +kernel
theorem dX5_pour_62 : decode cX5_pour 62 = .ok (.getfield 111, 3) := by decide +kernel
theorem dX5_pour_65 : decode cX5_pour 65 = .ok (.invokevirtual 114, 3) := by decide +kernel
theorem dX5_pour_68 : decode cX5_pour 68 = .ok (.aload_n 3, 1) := by decide +kernel
theorem dX5_pour_69 : decode cX5_pour 69 = .ok (.getfield 102, 3) := by decide +kernel
theorem dX5_pour_72 : decode cX5_pour 72 = .ok (.getfield 118, 3) := by decide +kernel
theorem dX5_pour_75 : decode cX5_pour 75 = .ok (.ireturn, 1) := by decide +kernel
theorem dX5_run_0 : decode cX5_run 0 = .ok (.aload_n 0, 1) := by decide +kernel
theorem dX5_run_1 : decode cX5_run 1 = .ok (.iload_n 1, 1) := by decide +kernel
theorem dX5_run_2 : decode cX5_run 2 = .ok (.invokevirtual 121, 3) := by decide +kernel
theorem dX5_run_5 : decode cX5_run 5 = .ok (.aload_n 0, 1) := by decide +kernel
theorem dX5_run_6 : decode cX5_run 6 = .ok (.getfield 10, 3) := by decide +kernel
theorem dX5_run_9 : decode cX5_run 9 = .ok (.getfield 124, 3) := by decide +kernel
theorem dX5_run_12 : decode cX5_run 12 = .ok (.istore_n 2, 1) := by decide +kernel
theorem dX5_run_13 : decode cX5_run 13 = .ok (.iconst 0, 1) := by decide +kernel
theorem dX5_run_14 : decode cX5_run 14 = .ok (.istore_n 3, 1) := by decide +kernel
theorem dX5_run_15 : decode cX5_run 15 = .ok (.iload_n 3, 1) := by decide +kernel
theorem dX5_run_16 : decode cX5_run 16 = .ok (.iload_n 1, 1) := by decide +kernel
theorem dX5_run_17 : decode cX5_run 17 = .ok (.if_icmp .ge 16, 3) := by decide +kernel
theorem dX5_run_20 : decode cX5_run 20 = .ok (.aload_n 0, 1) := by decide +kernel
theorem dX5_run_21 : decode cX5_run 21 = .ok (.getfield 10, 3) := by decide +kernel
theorem dX5_run_24 : decode cX5_run 24 = .ok (.invokevirtual 127, 3) := by decide +kernel
theorem dX5_run_27 : decode cX5_run 27 = .ok (.iinc 3 1, 3) := by decide +kernel
theorem dX5_run_30 : decode cX5_run 30 = .ok (.goto (-15), 3) := by decide +kernel
theorem dX5_run_33 : decode cX5_run 33 = .ok (.aload_n 0, 1) := by decide +kernel
theorem dX5_run_34 : decode cX5_run 34 = .ok (.getfield 10, 3) := by decide +kernel
theorem dX5_run_37 : decode cX5_run 37 = .ok (.getfield 124, 3) := by decide +kernel
theorem dX5_run_40 : decode cX5_run 40 = .ok (.iload_n 2, 1) := by decide +kernel
theorem dX5_run_41 : decode cX5_run 41 = .ok (.isub, 1) := by decide +kernel
theorem dX5_run_42 : decode cX5_run 42 = .ok (.ireturn, 1) := by decide +kernel
theorem dX5_time_0 : decode cX5_time 0 = .ok (.aload_n 0, 1) := by decide +kernel
theorem dX5_time_1 : decode cX5_time 1 = .ok (.getfield 10, 3) := by decide +kernel
theorem dX5_time_4 : decode cX5_time 4 = .ok (.getfield 130, 3) := by decide +kernel
theorem dX5_time_7 : decode cX5_time 7 = .ok (.ireturn, 1) := by decide +kernel
theorem dX5_channels_0 : decode cX5_channels 0 = .ok (.aload_n 0, 1) := by decide +kernel
theorem dX5_channels_1 : decode cX5_channels 1 = .ok (.getfield 10, 3) := by decide +kernel
theorem dX5_channels_4 : decode cX5_channels 4 = .ok (.getfield 26, 3) := by decide +kernel
theorem dX5_channels_7 : decode cX5_channels 7 = .ok (.ireturn, 1) := by decide +kernel
theorem dX5_fibers_0 : decode cX5_fibers 0 = .ok (.aload_n 0, 1) := by decide +kernel
theorem dX5_fibers_1 : decode cX5_fibers 1 = .ok (.getfield 10, 3) := by decide +kernel
theorem dX5_fibers_4 : decode cX5_fibers 4 = .ok (.getfield 44, 3) := by decide +kernel
theorem dX5_fibers_7 : decode cX5_fibers 7 = .ok (.ireturn, 1) := by decide +kernel
theorem dX5_done_0 : decode cX5_done 0 = .ok (.aload_n 0, 1) := by decide +kernel
theorem dX5_done_1 : decode cX5_done 1 = .ok (.getfield 10, 3) := by decide +kernel
theorem dX5_done_4 : decode cX5_done 4 = .ok (.invokevirtual 133, 3) := by decide +kernel
theorem dX5_done_7 : decode cX5_done 7 = .ok (.ireturn, 1) := by decide +kernel
theorem dX5_idleTurns_0 : decode cX5_idleTurns 0 = .ok (.aload_n 0, 1) := by decide +kernel
theorem dX5_idleTurns_1 : decode cX5_idleTurns 1 = .ok (.getfield 10, 3) := by decide +kernel
theorem dX5_idleTurns_4 : decode cX5_idleTurns 4 = .ok (.getfield 124, 3) := by decide +kernel
theorem dX5_idleTurns_7 : decode cX5_idleTurns 7 = .ok (.ireturn, 1) := by decide +kernel
theorem dX5_next_0 : decode cX5_next 0 = .ok (.aload_n 0, 1) := by decide +kernel
theorem dX5_next_1 : decode cX5_next 1 = .ok (.getfield 10, 3) := by decide +kernel
theorem dX5_next_4 : decode cX5_next 4 = .ok (.getfield 137, 3) := by decide +kernel
theorem dX5_next_7 : decode cX5_next 7 = .ok (.iconst 0, 1) := by decide +kernel
theorem dX5_next_8 : decode cX5_next 8 = .ok (.invokevirtual 140, 3) := by decide +kernel
theorem dX5_next_11 : decode cX5_next 11 = .ok (.ireturn, 1) := by decide +kernel
theorem dX5_isStuck_0 : decode cX5_isStuck 0 = .ok (.aload_n 0, 1) := by decide +kernel
theorem dX5_isStuck_1 : decode cX5_isStuck 1 = .ok (.getfield 10, 3) := by decide +kernel
theorem dX5_isStuck_4 : decode cX5_isStuck 4 = .ok (.invokevirtual 144, 3) := by decide +kernel
theorem dX5_isStuck_7 : decode cX5_isStuck 7 = .ok (.ifCond .eq 17, 3) := by decide +kernel
theorem dX5_isStuck_10 : decode cX5_isStuck 10 = .ok (.aload_n 0, 1) := by decide +kernel
theorem dX5_isStuck_11 : decode cX5_isStuck 11 = .ok (.getfield 10, 3) := by decide +kernel
theorem dX5_isStuck_14 : decode cX5_isStuck 14 = .ok (.invokevirtual 147, 3) := by decide +kernel
theorem dX5_isStuck_17 : decode cX5_isStuck 17 = .ok (.ifCond .ne 7, 3) := by decide +kernel
theorem dX5_isStuck_20 : decode cX5_isStuck 20 = .ok (.iconst 1, 1) := by decide +kernel
theorem dX5_isStuck_21 : decode cX5_isStuck 21 = .ok (.goto 4, 3) := by decide +kernel
theorem dX5_isStuck_24 : decode cX5_isStuck 24 = .ok (.iconst 0, 1) := by decide +kernel
theorem dX5_isStuck_25 : decode cX5_isStuck 25 = .ok (.ireturn, 1) := by decide +kernel
theorem dX5_held_0 : decode cX5_held 0 = .ok (.aload_n 0, 1) := by decide +kernel
theorem dX5_held_1 : decode cX5_held 1 = .ok (.iload_n 1, 1) := by decide +kernel
theorem dX5_held_2 : decode cX5_held 2 = .ok (.invokevirtual 87, 3) := by decide +kernel
theorem dX5_held_5 : decode cX5_held 5 = .ok (.aload_n 0, 1) := by decide +kernel
theorem dX5_held_6 : decode cX5_held 6 = .ok (.getfield 10, 3) := by decide +kernel
theorem dX5_held_9 : decode cX5_held 9 = .ok (.iload_n 1, 1) := by decide +kernel
theorem dX5_held_10 : decode cX5_held 10 = .ok (.invokevirtual 35, 3) := by decide +kernel
theorem dX5_held_13 : decode cX5_held 13 = .ok (.getfield 102, 3) := by decide +kernel
theorem dX5_held_16 : decode cX5_held 16 = .ok (.getfield 118, 3) := by decide +kernel
theorem dX5_held_19 : decode cX5_held 19 = .ok (.ireturn, 1) := by decide +kernel
theorem dX5_valueAt_0 : decode cX5_valueAt 0 = .ok (.aload_n 0, 1) := by decide +kernel
theorem dX5_valueAt_1 : decode cX5_valueAt 1 = .ok (.iload_n 1, 1) := by decide +kernel
theorem dX5_valueAt_2 : decode cX5_valueAt 2 = .ok (.invokevirtual 87, 3) := by decide +kernel
theorem dX5_valueAt_5 : decode cX5_valueAt 5 = .ok (.aload_n 0, 1) := by decide +kernel
theorem dX5_valueAt_6 : decode cX5_valueAt 6 = .ok (.getfield 10, 3) := by decide +kernel
theorem dX5_valueAt_9 : decode cX5_valueAt 9 = .ok (.iload_n 1, 1) := by decide +kernel
theorem dX5_valueAt_10 : decode cX5_valueAt 10 = .ok (.invokevirtual 35, 3) := by decide +kernel
theorem dX5_valueAt_13 : decode cX5_valueAt 13 = .ok (.getfield 102, 3) := by decide +kernel
theorem dX5_valueAt_16 : decode cX5_valueAt 16 = .ok (.astore_n 3, 1) := by decide +kernel
theorem dX5_valueAt_17 : decode cX5_valueAt 17 = .ok (.iload_n 2, 1) := by decide +kernel
theorem dX5_valueAt_18 : decode cX5_valueAt 18 = .ok (.ifCond .lt 11, 3) := by decide +kernel
theorem dX5_valueAt_21 : decode cX5_valueAt 21 = .ok (.iload_n 2, 1) := by decide +kernel
theorem dX5_valueAt_22 : decode cX5_valueAt 22 = .ok (.aload_n 3, 1) := by decide +kernel
theorem dX5_valueAt_23 : decode cX5_valueAt 23 = .ok (.getfield 118, 3) := by decide +kernel
theorem dX5_valueAt_26 : decode cX5_valueAt 26 = .ok (.if_icmp .lt 13, 3) := by decide +kernel
theorem dX5_valueAt_29 : decode cX5_valueAt 29 = .ok (.new 150, 3) := by decide +kernel
theorem dX5_valueAt_32 : decode cX5_valueAt 32 = .ok (.dup, 1) := by decide +kernel
theorem dX5_valueAt_33 : decode cX5_valueAt 33 = .ok (.ldc 152, 2) := by decide +kernel
theorem dX5_valueAt_35 : decode cX5_valueAt 35 = .ok (.invokespecial 154, 3) := by decide +kernel
theorem dX5_valueAt_38 : decode cX5_valueAt 38 = .ok (.athrow, 1) := by decide +kernel
theorem dX5_valueAt_39 : decode cX5_valueAt 39 = .ok (.aload_n 3, 1) := by decide +kernel
theorem dX5_valueAt_40 : decode cX5_valueAt 40 = .ok (.iload_n 2, 1) := by decide +kernel
theorem dX5_valueAt_41 : decode cX5_valueAt 41 = .ok (.invokevirtual 140, 3) := by decide +kernel
theorem dX5_valueAt_44 : decode cX5_valueAt 44 = .ok (.ireturn, 1) := by decide +kernel
theorem dX5_sendersAt_0 : decode cX5_sendersAt 0 = .ok (.aload_n 0, 1) := by decide +kernel
theorem dX5_sendersAt_1 : decode cX5_sendersAt 1 = .ok (.iload_n 1, 1) := by decide +kernel
theorem dX5_sendersAt_2 : decode cX5_sendersAt 2 = .ok (.invokevirtual 87, 3) := by decide +kernel
theorem dX5_sendersAt_5 : decode cX5_sendersAt 5 = .ok (.aload_n 0, 1) := by decide +kernel
theorem dX5_sendersAt_6 : decode cX5_sendersAt 6 = .ok (.getfield 10, 3) := by decide +kernel
theorem dX5_sendersAt_9 : decode cX5_sendersAt 9 = .ok (.iload_n 1, 1) := by decide +kernel
theorem dX5_sendersAt_10 : decode cX5_sendersAt 10 = .ok (.invokevirtual 35, 3) := by decide +kernel
theorem dX5_sendersAt_13 : decode cX5_sendersAt 13 = .ok (.getfield 155, 3) := by decide +kernel
theorem dX5_sendersAt_16 : decode cX5_sendersAt 16 = .ok (.getfield 118, 3) := by decide +kernel
theorem dX5_sendersAt_19 : decode cX5_sendersAt 19 = .ok (.ireturn, 1) := by decide +kernel
theorem dX5_takersAt_0 : decode cX5_takersAt 0 = .ok (.aload_n 0, 1) := by decide +kernel
theorem dX5_takersAt_1 : decode cX5_takersAt 1 = .ok (.iload_n 1, 1) := by decide +kernel
theorem dX5_takersAt_2 : decode cX5_takersAt 2 = .ok (.invokevirtual 87, 3) := by decide +kernel
theorem dX5_takersAt_5 : decode cX5_takersAt 5 = .ok (.aload_n 0, 1) := by decide +kernel
theorem dX5_takersAt_6 : decode cX5_takersAt 6 = .ok (.getfield 10, 3) := by decide +kernel
theorem dX5_takersAt_9 : decode cX5_takersAt 9 = .ok (.iload_n 1, 1) := by decide +kernel
theorem dX5_takersAt_10 : decode cX5_takersAt 10 = .ok (.invokevirtual 35, 3) := by decide +kernel
theorem dX5_takersAt_13 : decode cX5_takersAt 13 = .ok (.getfield 111, 3) := by decide +kernel
theorem dX5_takersAt_16 : decode cX5_takersAt 16 = .ok (.getfield 118, 3) := by decide +kernel
theorem dX5_takersAt_19 : decode cX5_takersAt 19 = .ok (.ireturn, 1) := by decide +kernel
theorem dX5_stateOf_0 : decode cX5_stateOf 0 = .ok (.aload_n 0, 1) := by decide +kernel
theorem dX5_stateOf_1 : decode cX5_stateOf 1 = .ok (.iload_n 1, 1) := by decide +kernel
theorem dX5_stateOf_2 : decode cX5_stateOf 2 = .ok (.invokevirtual 49, 3) := by decide +kernel
theorem dX5_stateOf_5 : decode cX5_stateOf 5 = .ok (.aload_n 0, 1) := by decide +kernel
theorem dX5_stateOf_6 : decode cX5_stateOf 6 = .ok (.getfield 10, 3) := by decide +kernel
theorem dX5_stateOf_9 : decode cX5_stateOf 9 = .ok (.iload_n 1, 1) := by decide +kernel
theorem dX5_stateOf_10 : decode cX5_stateOf 10 = .ok (.invokevirtual 59, 3) := by decide +kernel
theorem dX5_stateOf_13 : decode cX5_stateOf 13 = .ok (.getfield 80, 3) := by decide +kernel
theorem dX5_stateOf_16 : decode cX5_stateOf 16 = .ok (.ireturn, 1) := by decide +kernel
theorem dX5_placeOf_0 : decode cX5_placeOf 0 = .ok (.aload_n 0, 1) := by decide +kernel
theorem dX5_placeOf_1 : decode cX5_placeOf 1 = .ok (.iload_n 1, 1) := by decide +kernel
theorem dX5_placeOf_2 : decode cX5_placeOf 2 = .ok (.invokevirtual 49, 3) := by decide +kernel
theorem dX5_placeOf_5 : decode cX5_placeOf 5 = .ok (.aload_n 0, 1) := by decide +kernel
theorem dX5_placeOf_6 : decode cX5_placeOf 6 = .ok (.getfield 10, 3) := by decide +kernel
theorem dX5_placeOf_9 : decode cX5_placeOf 9 = .ok (.iload_n 1, 1) := by decide +kernel
theorem dX5_placeOf_10 : decode cX5_placeOf 10 = .ok (.invokevirtual 59, 3) := by decide +kernel
theorem dX5_placeOf_13 : decode cX5_placeOf 13 = .ok (.getfield 158, 3) := by decide +kernel
theorem dX5_placeOf_16 : decode cX5_placeOf 16 = .ok (.ireturn, 1) := by decide +kernel
theorem dX5_sumOf_0 : decode cX5_sumOf 0 = .ok (.aload_n 0, 1) := by decide +kernel
theorem dX5_sumOf_1 : decode cX5_sumOf 1 = .ok (.iload_n 1, 1) := by decide +kernel
theorem dX5_sumOf_2 : decode cX5_sumOf 2 = .ok (.invokevirtual 49, 3) := by decide +kernel
theorem dX5_sumOf_5 : decode cX5_sumOf 5 = .ok (.aload_n 0, 1) := by decide +kernel
theorem dX5_sumOf_6 : decode cX5_sumOf 6 = .ok (.getfield 10, 3) := by decide +kernel
theorem dX5_sumOf_9 : decode cX5_sumOf 9 = .ok (.iload_n 1, 1) := by decide +kernel
theorem dX5_sumOf_10 : decode cX5_sumOf 10 = .ok (.invokevirtual 59, 3) := by decide +kernel
theorem dX5_sumOf_13 : decode cX5_sumOf 13 = .ok (.getfield 161, 3) := by decide +kernel
theorem dX5_sumOf_16 : decode cX5_sumOf 16 = .ok (.ireturn, 1) := by decide +kernel
theorem dX5_stepsDone_0 : decode cX5_stepsDone 0 = .ok (.aload_n 0, 1) := by decide +kernel
theorem dX5_stepsDone_1 : decode cX5_stepsDone 1 = .ok (.iload_n 1, 1) := by decide +kernel
theorem dX5_stepsDone_2 : decode cX5_stepsDone 2 = .ok (.invokevirtual 49, 3) := by decide +kernel
theorem dX5_stepsDone_5 : decode cX5_stepsDone 5 = .ok (.aload_n 0, 1) := by decide +kernel
theorem dX5_stepsDone_6 : decode cX5_stepsDone 6 = .ok (.getfield 10, 3) := by decide +kernel
theorem dX5_stepsDone_9 : decode cX5_stepsDone 9 = .ok (.iload_n 1, 1) := by decide +kernel
theorem dX5_stepsDone_10 : decode cX5_stepsDone 10 = .ok (.invokevirtual 59, 3) := by decide +kernel
theorem dX5_stepsDone_13 : decode cX5_stepsDone 13 = .ok (.getfield 164, 3) := by decide +kernel
theorem dX5_stepsDone_16 : decode cX5_stepsDone 16 = .ok (.ireturn, 1) := by decide +kernel
theorem dX5_turnsOf_0 : decode cX5_turnsOf 0 = .ok (.aload_n 0, 1) := by decide +kernel
theorem dX5_turnsOf_1 : decode cX5_turnsOf 1 = .ok (.iload_n 1, 1) := by decide +kernel
theorem dX5_turnsOf_2 : decode cX5_turnsOf 2 = .ok (.invokevirtual 49, 3) := by decide +kernel
theorem dX5_turnsOf_5 : decode cX5_turnsOf 5 = .ok (.aload_n 0, 1) := by decide +kernel
theorem dX5_turnsOf_6 : decode cX5_turnsOf 6 = .ok (.getfield 10, 3) := by decide +kernel
theorem dX5_turnsOf_9 : decode cX5_turnsOf 9 = .ok (.iload_n 1, 1) := by decide +kernel
theorem dX5_turnsOf_10 : decode cX5_turnsOf 10 = .ok (.invokevirtual 59, 3) := by decide +kernel
theorem dX5_turnsOf_13 : decode cX5_turnsOf 13 = .ok (.getfield 167, 3) := by decide +kernel
theorem dX5_turnsOf_16 : decode cX5_turnsOf 16 = .ok (.ireturn, 1) := by decide +kernel
theorem dX5_placeInLine_0 : decode cX5_placeInLine 0 = .ok (.aload_n 0, 1) := by decide +kernel
theorem dX5_placeInLine_1 : decode cX5_placeInLine 1 = .ok (.iload_n 1, 1) := by decide +kernel
theorem dX5_placeInLine_2 : decode cX5_placeInLine 2 = .ok (.invokevirtual 49, 3) := by decide +kernel
theorem dX5_placeInLine_5 : decode cX5_placeInLine 5 = .ok (.aload_n 0, 1) := by decide +kernel
theorem dX5_placeInLine_6 : decode cX5_placeInLine 6 = .ok (.getfield 10, 3) := by decide +kernel
theorem dX5_placeInLine_9 : decode cX5_placeInLine 9 = .ok (.getfield 137, 3) := by decide +kernel
theorem dX5_placeInLine_12 : decode cX5_placeInLine 12 = .ok (.iload_n 1, 1) := by decide +kernel
theorem dX5_placeInLine_13 : decode cX5_placeInLine 13 = .ok (.invokevirtual 170, 3) := by decide +kernel
theorem dX5_placeInLine_16 : decode cX5_placeInLine 16 = .ok (.ireturn, 1) := by decide +kernel
theorem dX5_turnsUntilDone_0 : decode cX5_turnsUntilDone 0 = .ok (.aload_n 0, 1) := by decide +kernel
theorem dX5_turnsUntilDone_1 : decode cX5_turnsUntilDone 1 = .ok (.iload_n 1, 1) := by decide +kernel
theorem dX5_turnsUntilDone_2 : decode cX5_turnsUntilDone 2 = .ok (.invokevirtual 49, 3) := by decide +kernel
theorem dX5_turnsUntilDone_5 : decode cX5_turnsUntilDone 5 = .ok (.aload_n 0, 1) := by decide +kernel
theorem dX5_turnsUntilDone_6 : decode cX5_turnsUntilDone 6 = .ok (.getfield 16, 3) := by decide +kernel
theorem dX5_turnsUntilDone_9 : decode cX5_turnsUntilDone 9 = .ok (.aload_n 0, 1) := by decide +kernel
theorem dX5_turnsUntilDone_10 : decode cX5_turnsUntilDone 10 = .ok (.getfield 10, 3) := by decide +kernel
theorem dX5_turnsUntilDone_13 : decode cX5_turnsUntilDone 13 = .ok (.invokevirtual 173, 3) := by decide +kernel
theorem dX5_turnsUntilDone_16 : decode cX5_turnsUntilDone 16 = .ok (.aload_n 0, 1) := by decide +kernel
theorem dX5_turnsUntilDone_17 : decode cX5_turnsUntilDone 17 = .ok (.getfield 16, 3) := by decide +kernel
theorem dX5_turnsUntilDone_20 : decode cX5_turnsUntilDone 20 = .ok (.iload_n 1, 1) := by decide +kernel
theorem dX5_turnsUntilDone_21 : decode cX5_turnsUntilDone 21 = .ok (.invokevirtual 59, 3) := by decide +kernel
theorem dX5_turnsUntilDone_24 : decode cX5_turnsUntilDone 24 = .ok (.astore_n 2, 1) := by decide +kernel
theorem dX5_turnsUntilDone_25 : decode cX5_turnsUntilDone 25 = .ok (.iconst 0, 1) := by decide +kernel
theorem dX5_turnsUntilDone_26 : decode cX5_turnsUntilDone 26 = .ok (.istore_n 3, 1) := by decide +kernel
theorem dX5_turnsUntilDone_27 : decode cX5_turnsUntilDone 27 = .ok (.iload_n 3, 1) := by decide +kernel
theorem dX5_turnsUntilDone_28 : decode cX5_turnsUntilDone 28 = .ok (.sipush 200, 3) := by decide +kernel
theorem dX5_turnsUntilDone_31 : decode cX5_turnsUntilDone 31 = .ok (.if_icmp .ge 34, 3) := by decide +kernel
theorem dX5_turnsUntilDone_34 : decode cX5_turnsUntilDone 34 = .ok (.aload_n 2, 1) := by decide +kernel
theorem dX5_turnsUntilDone_35 : decode cX5_turnsUntilDone 35 = .ok (.getfield 80, 3) := by decide +kernel
theorem dX5_turnsUntilDone_38 : decode cX5_turnsUntilDone 38 = .ok (.iconst 5, 1) := by decide +kernel
theorem dX5_turnsUntilDone_39 : decode cX5_turnsUntilDone 39 = .ok (.if_icmp .eq 26, 3) := by decide +kernel
theorem dX5_turnsUntilDone_42 : decode cX5_turnsUntilDone 42 = .ok (.aload_n 0, 1) := by decide +kernel
theorem dX5_turnsUntilDone_43 : decode cX5_turnsUntilDone 43 = .ok (.getfield 16, 3) := by decide +kernel
theorem dX5_turnsUntilDone_46 : decode cX5_turnsUntilDone 46 = .ok (.invokevirtual 144, 3) := by decide +kernel
theorem dX5_turnsUntilDone_49 : decode cX5_turnsUntilDone 49 = .ok (.ifCond .ne 16, 3) := by decide +kernel
theorem dX5_turnsUntilDone_52 : decode cX5_turnsUntilDone 52 = .ok (.aload_n 0, 1) := by decide +kernel
theorem dX5_turnsUntilDone_53 : decode cX5_turnsUntilDone 53 = .ok (.getfield 16, 3) := by decide +kernel
theorem dX5_turnsUntilDone_56 : decode cX5_turnsUntilDone 56 = .ok (.invokevirtual 127, 3) := by decide +kernel
theorem dX5_turnsUntilDone_59 : decode cX5_turnsUntilDone 59 = .ok (.iinc 3 1, 3) := by decide +kernel
theorem dX5_turnsUntilDone_62 : decode cX5_turnsUntilDone 62 = .ok (.goto (-35), 3) := by decide +kernel
theorem dX5_turnsUntilDone_65 : decode cX5_turnsUntilDone 65 = .ok (.aload_n 2, 1) := by decide +kernel
theorem dX5_turnsUntilDone_66 : decode cX5_turnsUntilDone 66 = .ok (.getfield 80, 3) := by decide +kernel
theorem dX5_turnsUntilDone_69 : decode cX5_turnsUntilDone 69 = .ok (.iconst 5, 1) := by decide +kernel
theorem dX5_turnsUntilDone_70 : decode cX5_turnsUntilDone 70 = .ok (.if_icmp .ne 7, 3) := by decide +kernel
theorem dX5_turnsUntilDone_73 : decode cX5_turnsUntilDone 73 = .ok (.iload_n 3, 1) := by decide +kernel
theorem dX5_turnsUntilDone_74 : decode cX5_turnsUntilDone 74 = .ok (.goto 4, 3) := by decide +kernel
theorem dX5_turnsUntilDone_77 : decode cX5_turnsUntilDone 77 = .ok (.iconst (-1), 1) := by decide +kernel
theorem dX5_turnsUntilDone_78 : decode cX5_turnsUntilDone 78 = .ok (.ireturn, 1) := by decide +kernel
theorem dX5_turnsUntilStuck_0 : decode cX5_turnsUntilStuck 0 = .ok (.aload_n 0, 1) := by decide +kernel
theorem dX5_turnsUntilStuck_1 : decode cX5_turnsUntilStuck 1 = .ok (.getfield 16, 3) := by decide +kernel
theorem dX5_turnsUntilStuck_4 : decode cX5_turnsUntilStuck 4 = .ok (.aload_n 0, 1) := by decide +kernel
theorem dX5_turnsUntilStuck_5 : decode cX5_turnsUntilStuck 5 = .ok (.getfield 10, 3) := by decide +kernel
theorem dX5_turnsUntilStuck_8 : decode cX5_turnsUntilStuck 8 = .ok (.invokevirtual 173, 3) := by decide +kernel
theorem dX5_turnsUntilStuck_11 : decode cX5_turnsUntilStuck 11 = .ok (.iconst 0, 1) := by decide +kernel
theorem dX5_turnsUntilStuck_12 : decode cX5_turnsUntilStuck 12 = .ok (.istore_n 1, 1) := by decide +kernel
theorem dX5_turnsUntilStuck_13 : decode cX5_turnsUntilStuck 13 = .ok (.iload_n 1, 1) := by decide +kernel
theorem dX5_turnsUntilStuck_14 : decode cX5_turnsUntilStuck 14 = .ok (.sipush 200, 3) := by decide +kernel
theorem dX5_turnsUntilStuck_17 : decode cX5_turnsUntilStuck 17 = .ok (.if_icmp .ge 26, 3) := by decide +kernel
theorem dX5_turnsUntilStuck_20 : decode cX5_turnsUntilStuck 20 = .ok (.aload_n 0, 1) := by decide +kernel
theorem dX5_turnsUntilStuck_21 : decode cX5_turnsUntilStuck 21 = .ok (.getfield 16, 3) := by decide +kernel
theorem dX5_turnsUntilStuck_24 : decode cX5_turnsUntilStuck 24 = .ok (.invokevirtual 144, 3) := by decide +kernel
theorem dX5_turnsUntilStuck_27 : decode cX5_turnsUntilStuck 27 = .ok (.ifCond .ne 16, 3) := by decide +kernel
theorem dX5_turnsUntilStuck_30 : decode cX5_turnsUntilStuck 30 = .ok (.aload_n 0, 1) := by decide +kernel
theorem dX5_turnsUntilStuck_31 : decode cX5_turnsUntilStuck 31 = .ok (.getfield 16, 3) := by decide +kernel
theorem dX5_turnsUntilStuck_34 : decode cX5_turnsUntilStuck 34 = .ok (.invokevirtual 127, 3) := by decide +kernel
theorem dX5_turnsUntilStuck_37 : decode cX5_turnsUntilStuck 37 = .ok (.iinc 1 1, 3) := by decide +kernel
theorem dX5_turnsUntilStuck_40 : decode cX5_turnsUntilStuck 40 = .ok (.goto (-27), 3) := by decide +kernel
theorem dX5_turnsUntilStuck_43 : decode cX5_turnsUntilStuck 43 = .ok (.aload_n 0, 1) := by decide +kernel
theorem dX5_turnsUntilStuck_44 : decode cX5_turnsUntilStuck 44 = .ok (.getfield 16, 3) := by decide +kernel
theorem dX5_turnsUntilStuck_47 : decode cX5_turnsUntilStuck 47 = .ok (.invokevirtual 144, 3) := by decide +kernel
theorem dX5_turnsUntilStuck_50 : decode cX5_turnsUntilStuck 50 = .ok (.ifCond .eq 17, 3) := by decide +kernel
theorem dX5_turnsUntilStuck_53 : decode cX5_turnsUntilStuck 53 = .ok (.aload_n 0, 1) := by decide +kernel
theorem dX5_turnsUntilStuck_54 : decode cX5_turnsUntilStuck 54 = .ok (.getfield 16, 3) := by decide +kernel
theorem dX5_turnsUntilStuck_57 : decode cX5_turnsUntilStuck 57 = .ok (.invokevirtual 147, 3) := by decide +kernel
theorem dX5_turnsUntilStuck_60 : decode cX5_turnsUntilStuck 60 = .ok (.ifCond .ne 7, 3) := by decide +kernel
theorem dX5_turnsUntilStuck_63 : decode cX5_turnsUntilStuck 63 = .ok (.iload_n 1, 1) := by decide +kernel
theorem dX5_turnsUntilStuck_64 : decode cX5_turnsUntilStuck 64 = .ok (.goto 4, 3) := by decide +kernel
theorem dX5_turnsUntilStuck_67 : decode cX5_turnsUntilStuck 67 = .ok (.iconst (-1), 1) := by decide +kernel
theorem dX5_turnsUntilStuck_68 : decode cX5_turnsUntilStuck 68 = .ok (.ireturn, 1) := by decide +kernel
theorem dX5_sumIn_0 : decode cX5_sumIn 0 = .ok (.aload_n 0, 1) := by decide +kernel
theorem dX5_sumIn_1 : decode cX5_sumIn 1 = .ok (.iload_n 1, 1) := by decide +kernel
theorem dX5_sumIn_2 : decode cX5_sumIn 2 = .ok (.invokevirtual 49, 3) := by decide +kernel
theorem dX5_sumIn_5 : decode cX5_sumIn 5 = .ok (.aload_n 0, 1) := by decide +kernel
theorem dX5_sumIn_6 : decode cX5_sumIn 6 = .ok (.iload_n 2, 1) := by decide +kernel
theorem dX5_sumIn_7 : decode cX5_sumIn 7 = .ok (.invokevirtual 121, 3) := by decide +kernel
theorem dX5_sumIn_10 : decode cX5_sumIn 10 = .ok (.aload_n 0, 1) := by decide +kernel
theorem dX5_sumIn_11 : decode cX5_sumIn 11 = .ok (.getfield 16, 3) := by decide +kernel
theorem dX5_sumIn_14 : decode cX5_sumIn 14 = .ok (.aload_n 0, 1) := by decide +kernel
theorem dX5_sumIn_15 : decode cX5_sumIn 15 = .ok (.getfield 10, 3) := by decide +kernel
theorem dX5_sumIn_18 : decode cX5_sumIn 18 = .ok (.invokevirtual 173, 3) := by decide +kernel
theorem dX5_sumIn_21 : decode cX5_sumIn 21 = .ok (.iconst 0, 1) := by decide +kernel
theorem dX5_sumIn_22 : decode cX5_sumIn 22 = .ok (.istore_n 3, 1) := by decide +kernel
theorem dX5_sumIn_23 : decode cX5_sumIn 23 = .ok (.iload_n 3, 1) := by decide +kernel
theorem dX5_sumIn_24 : decode cX5_sumIn 24 = .ok (.iload_n 2, 1) := by decide +kernel
theorem dX5_sumIn_25 : decode cX5_sumIn 25 = .ok (.if_icmp .ge 16, 3) := by decide +kernel
theorem dX5_sumIn_28 : decode cX5_sumIn 28 = .ok (.aload_n 0, 1) := by decide +kernel
theorem dX5_sumIn_29 : decode cX5_sumIn 29 = .ok (.getfield 16, 3) := by decide +kernel
theorem dX5_sumIn_32 : decode cX5_sumIn 32 = .ok (.invokevirtual 127, 3) := by decide +kernel
theorem dX5_sumIn_35 : decode cX5_sumIn 35 = .ok (.iinc 3 1, 3) := by decide +kernel
theorem dX5_sumIn_38 : decode cX5_sumIn 38 = .ok (.goto (-15), 3) := by decide +kernel
theorem dX5_sumIn_41 : decode cX5_sumIn 41 = .ok (.aload_n 0, 1) := by decide +kernel
theorem dX5_sumIn_42 : decode cX5_sumIn 42 = .ok (.getfield 16, 3) := by decide +kernel
theorem dX5_sumIn_45 : decode cX5_sumIn 45 = .ok (.iload_n 1, 1) := by decide +kernel
theorem dX5_sumIn_46 : decode cX5_sumIn 46 = .ok (.invokevirtual 59, 3) := by decide +kernel
theorem dX5_sumIn_49 : decode cX5_sumIn 49 = .ok (.getfield 161, 3) := by decide +kernel
theorem dX5_sumIn_52 : decode cX5_sumIn 52 = .ok (.ireturn, 1) := by decide +kernel
theorem dX5_placesWanted_0 : decode cX5_placesWanted 0 = .ok (.aload_n 0, 1) := by decide +kernel
theorem dX5_placesWanted_1 : decode cX5_placesWanted 1 = .ok (.iload_n 1, 1) := by decide +kernel
theorem dX5_placesWanted_2 : decode cX5_placesWanted 2 = .ok (.invokevirtual 87, 3) := by decide +kernel
theorem dX5_placesWanted_5 : decode cX5_placesWanted 5 = .ok (.aload_n 0, 1) := by decide +kernel
theorem dX5_placesWanted_6 : decode cX5_placesWanted 6 = .ok (.getfield 10, 3) := by decide +kernel
theorem dX5_placesWanted_9 : decode cX5_placesWanted 9 = .ok (.iload_n 1, 1) := by decide +kernel
theorem dX5_placesWanted_10 : decode cX5_placesWanted 10 = .ok (.invokevirtual 35, 3) := by decide +kernel
theorem dX5_placesWanted_13 : decode cX5_placesWanted 13 = .ok (.getfield 39, 3) := by decide +kernel
theorem dX5_placesWanted_16 : decode cX5_placesWanted 16 = .ok (.istore_n 2, 1) := by decide +kernel
theorem dX5_placesWanted_17 : decode cX5_placesWanted 17 = .ok (.iload_n 2, 1) := by decide +kernel
theorem dX5_placesWanted_18 : decode cX5_placesWanted 18 = .ok (.bipush 8, 2) := by decide +kernel
theorem dX5_placesWanted_20 : decode cX5_placesWanted 20 = .ok (.if_icmp .gt 75, 3) := by decide +kernel
theorem dX5_placesWanted_23 : decode cX5_placesWanted 23 = .ok (.aload_n 0, 1) := by decide +kernel
theorem dX5_placesWanted_24 : decode cX5_placesWanted 24 = .ok (.getfield 16, 3) := by decide +kernel
theorem dX5_placesWanted_27 : decode cX5_placesWanted 27 = .ok (.aload_n 0, 1) := by decide +kernel
theorem dX5_placesWanted_28 : decode cX5_placesWanted 28 = .ok (.getfield 10, 3) := by decide +kernel
theorem dX5_placesWanted_31 : decode cX5_placesWanted 31 = .ok (.invokevirtual 173, 3) := by decide +kernel
theorem dX5_placesWanted_34 : decode cX5_placesWanted 34 = .ok (.aload_n 0, 1) := by decide +kernel
theorem dX5_placesWanted_35 : decode cX5_placesWanted 35 = .ok (.getfield 16, 3) := by decide +kernel
theorem dX5_placesWanted_38 : decode cX5_placesWanted 38 = .ok (.iload_n 1, 1) := by decide +kernel
theorem dX5_placesWanted_39 : decode cX5_placesWanted 39 = .ok (.invokevirtual 35, 3) := by decide +kernel
theorem dX5_placesWanted_42 : decode cX5_placesWanted 42 = .ok (.iload_n 2, 1) := by decide +kernel
theorem dX5_placesWanted_43 : decode cX5_placesWanted 43 = .ok (.putfield 39, 3) := by decide +kernel
theorem dX5_placesWanted_46 : decode cX5_placesWanted 46 = .ok (.iconst 0, 1) := by decide +kernel
theorem dX5_placesWanted_47 : decode cX5_placesWanted 47 = .ok (.istore_n 3, 1) := by decide +kernel
theorem dX5_placesWanted_48 : decode cX5_placesWanted 48 = .ok (.iload_n 3, 1) := by decide +kernel
theorem dX5_placesWanted_49 : decode cX5_placesWanted 49 = .ok (.bipush 100, 2) := by decide +kernel
theorem dX5_placesWanted_51 : decode cX5_placesWanted 51 = .ok (.if_icmp .ge 26, 3) := by decide +kernel
theorem dX5_placesWanted_54 : decode cX5_placesWanted 54 = .ok (.aload_n 0, 1) := by decide +kernel
theorem dX5_placesWanted_55 : decode cX5_placesWanted 55 = .ok (.getfield 16, 3) := by decide +kernel
theorem dX5_placesWanted_58 : decode cX5_placesWanted 58 = .ok (.invokevirtual 144, 3) := by decide +kernel
theorem dX5_placesWanted_61 : decode cX5_placesWanted 61 = .ok (.ifCond .ne 16, 3) := by decide +kernel
theorem dX5_placesWanted_64 : decode cX5_placesWanted 64 = .ok (.aload_n 0, 1) := by decide +kernel
theorem dX5_placesWanted_65 : decode cX5_placesWanted 65 = .ok (.getfield 16, 3) := by decide +kernel
theorem dX5_placesWanted_68 : decode cX5_placesWanted 68 = .ok (.invokevirtual 127, 3) := by decide +kernel
theorem dX5_placesWanted_71 : decode cX5_placesWanted 71 = .ok (.iinc 3 1, 3) := by decide +kernel
theorem dX5_placesWanted_74 : decode cX5_placesWanted 74 = .ok (.goto (-26), 3) := by decide +kernel
theorem dX5_placesWanted_77 : decode cX5_placesWanted 77 = .ok (.aload_n 0, 1) := by decide +kernel
theorem dX5_placesWanted_78 : decode cX5_placesWanted 78 = .ok (.getfield 16, 3) := by decide +kernel
theorem dX5_placesWanted_81 : decode cX5_placesWanted 81 = .ok (.invokevirtual 147, 3) := by decide +kernel
theorem dX5_placesWanted_84 : decode cX5_placesWanted 84 = .ok (.ifCond .eq 5, 3) := by decide +kernel
theorem dX5_placesWanted_87 : decode cX5_placesWanted 87 = .ok (.iload_n 2, 1) := by decide +kernel
theorem dX5_placesWanted_88 : decode cX5_placesWanted 88 = .ok (.ireturn, 1) := by decide +kernel
theorem dX5_placesWanted_89 : decode cX5_placesWanted 89 = .ok (.iinc 2 1, 3) := by decide +kernel
theorem dX5_placesWanted_92 : decode cX5_placesWanted 92 = .ok (.goto (-75), 3) := by decide +kernel
theorem dX5_placesWanted_95 : decode cX5_placesWanted 95 = .ok (.iconst (-1), 1) := by decide +kernel
theorem dX5_placesWanted_96 : decode cX5_placesWanted 96 = .ok (.ireturn, 1) := by decide +kernel
theorem dX5_meanTurns_0 : decode cX5_meanTurns 0 = .ok (.aload_n 0, 1) := by decide +kernel
theorem dX5_meanTurns_1 : decode cX5_meanTurns 1 = .ok (.getfield 10, 3) := by decide +kernel
theorem dX5_meanTurns_4 : decode cX5_meanTurns 4 = .ok (.getfield 44, 3) := by decide +kernel
theorem dX5_meanTurns_7 : decode cX5_meanTurns 7 = .ok (.ifCond .gt 5, 3) := by decide +kernel
theorem dX5_meanTurns_10 : decode cX5_meanTurns 10 = .ok (.dconst 0, 1) := by decide +kernel
theorem dX5_meanTurns_11 : decode cX5_meanTurns 11 = .ok (.dreturn, 1) := by decide +kernel
theorem dX5_meanTurns_12 : decode cX5_meanTurns 12 = .ok (.iconst 0, 1) := by decide +kernel
theorem dX5_meanTurns_13 : decode cX5_meanTurns 13 = .ok (.istore_n 1, 1) := by decide +kernel
theorem dX5_meanTurns_14 : decode cX5_meanTurns 14 = .ok (.iconst 0, 1) := by decide +kernel
theorem dX5_meanTurns_15 : decode cX5_meanTurns 15 = .ok (.istore_n 2, 1) := by decide +kernel
theorem dX5_meanTurns_16 : decode cX5_meanTurns 16 = .ok (.iload_n 2, 1) := by decide +kernel
theorem dX5_meanTurns_17 : decode cX5_meanTurns 17 = .ok (.aload_n 0, 1) := by decide +kernel
theorem dX5_meanTurns_18 : decode cX5_meanTurns 18 = .ok (.getfield 10, 3) := by decide +kernel
theorem dX5_meanTurns_21 : decode cX5_meanTurns 21 = .ok (.getfield 44, 3) := by decide +kernel
theorem dX5_meanTurns_24 : decode cX5_meanTurns 24 = .ok (.if_icmp .ge 23, 3) := by decide +kernel
theorem dX5_meanTurns_27 : decode cX5_meanTurns 27 = .ok (.iload_n 1, 1) := by decide +kernel
theorem dX5_meanTurns_28 : decode cX5_meanTurns 28 = .ok (.aload_n 0, 1) := by decide +kernel
theorem dX5_meanTurns_29 : decode cX5_meanTurns 29 = .ok (.getfield 10, 3) := by decide +kernel
theorem dX5_meanTurns_32 : decode cX5_meanTurns 32 = .ok (.iload_n 2, 1) := by decide +kernel
theorem dX5_meanTurns_33 : decode cX5_meanTurns 33 = .ok (.invokevirtual 59, 3) := by decide +kernel
theorem dX5_meanTurns_36 : decode cX5_meanTurns 36 = .ok (.getfield 167, 3) := by decide +kernel
theorem dX5_meanTurns_39 : decode cX5_meanTurns 39 = .ok (.iadd, 1) := by decide +kernel
theorem dX5_meanTurns_40 : decode cX5_meanTurns 40 = .ok (.istore_n 1, 1) := by decide +kernel
theorem dX5_meanTurns_41 : decode cX5_meanTurns 41 = .ok (.iinc 2 1, 3) := by decide +kernel
theorem dX5_meanTurns_44 : decode cX5_meanTurns 44 = .ok (.goto (-28), 3) := by decide +kernel
theorem dX5_meanTurns_47 : decode cX5_meanTurns 47 = .ok (.iload_n 1, 1) := by decide +kernel
theorem dX5_meanTurns_48 : decode cX5_meanTurns 48 = .ok (.i2d, 1) := by decide +kernel
theorem dX5_meanTurns_49 : decode cX5_meanTurns 49 = .ok (.aload_n 0, 1) := by decide +kernel
theorem dX5_meanTurns_50 : decode cX5_meanTurns 50 = .ok (.getfield 10, 3) := by decide +kernel
theorem dX5_meanTurns_53 : decode cX5_meanTurns 53 = .ok (.getfield 44, 3) := by decide +kernel
theorem dX5_meanTurns_56 : decode cX5_meanTurns 56 = .ok (.i2d, 1) := by decide +kernel
theorem dX5_meanTurns_57 : decode cX5_meanTurns 57 = .ok (.ddiv, 1) := by decide +kernel
theorem dX5_meanTurns_58 : decode cX5_meanTurns 58 = .ok (.dreturn, 1) := by decide +kernel
theorem dX5_digest_0 : decode cX5_digest 0 = .ok (.ldc2_w 177, 3) := by decide +kernel
theorem dX5_digest_3 : decode cX5_digest 3 = .ok (.lstore_n 1, 1) := by decide +kernel
theorem dX5_digest_4 : decode cX5_digest 4 = .ok (.lload_n 1, 1) := by decide +kernel
theorem dX5_digest_5 : decode cX5_digest 5 = .ok (.ldc2_w 179, 3) := by decide +kernel
theorem dX5_digest_8 : decode cX5_digest 8 = .ok (.lmul, 1) := by decide +kernel
theorem dX5_digest_9 : decode cX5_digest 9 = .ok (.aload_n 0, 1) := by decide +kernel
theorem dX5_digest_10 : decode cX5_digest 10 = .ok (.invokevirtual 181, 3) := by decide +kernel
theorem dX5_digest_13 : decode cX5_digest 13 = .ok (.i2l, 1) := by decide +kernel
theorem dX5_digest_14 : decode cX5_digest 14 = .ok (.ladd, 1) := by decide +kernel
theorem dX5_digest_15 : decode cX5_digest 15 = .ok (.lstore_n 1, 1) := by decide +kernel
theorem dX5_digest_16 : decode cX5_digest 16 = .ok (.lload_n 1, 1) := by decide +kernel
theorem dX5_digest_17 : decode cX5_digest 17 = .ok (.ldc2_w 179, 3) := by decide +kernel
theorem dX5_digest_20 : decode cX5_digest 20 = .ok (.lmul, 1) := by decide +kernel
theorem dX5_digest_21 : decode cX5_digest 21 = .ok (.aload_n 0, 1) := by decide +kernel
theorem dX5_digest_22 : decode cX5_digest 22 = .ok (.invokevirtual 184, 3) := by decide +kernel
theorem dX5_digest_25 : decode cX5_digest 25 = .ok (.i2l, 1) := by decide +kernel
theorem dX5_digest_26 : decode cX5_digest 26 = .ok (.ladd, 1) := by decide +kernel
theorem dX5_digest_27 : decode cX5_digest 27 = .ok (.lstore_n 1, 1) := by decide +kernel
theorem dX5_digest_28 : decode cX5_digest 28 = .ok (.lload_n 1, 1) := by decide +kernel
theorem dX5_digest_29 : decode cX5_digest 29 = .ok (.ldc2_w 179, 3) := by decide +kernel
theorem dX5_digest_32 : decode cX5_digest 32 = .ok (.lmul, 1) := by decide +kernel
theorem dX5_digest_33 : decode cX5_digest 33 = .ok (.aload_n 0, 1) := by decide +kernel
theorem dX5_digest_34 : decode cX5_digest 34 = .ok (.invokevirtual 187, 3) := by decide +kernel
theorem dX5_digest_37 : decode cX5_digest 37 = .ok (.i2l, 1) := by decide +kernel
theorem dX5_digest_38 : decode cX5_digest 38 = .ok (.ladd, 1) := by decide +kernel
theorem dX5_digest_39 : decode cX5_digest 39 = .ok (.lstore_n 1, 1) := by decide +kernel
theorem dX5_digest_40 : decode cX5_digest 40 = .ok (.lload_n 1, 1) := by decide +kernel
theorem dX5_digest_41 : decode cX5_digest 41 = .ok (.ldc2_w 179, 3) := by decide +kernel
theorem dX5_digest_44 : decode cX5_digest 44 = .ok (.lmul, 1) := by decide +kernel
theorem dX5_digest_45 : decode cX5_digest 45 = .ok (.aload_n 0, 1) := by decide +kernel
theorem dX5_digest_46 : decode cX5_digest 46 = .ok (.invokevirtual 190, 3) := by decide +kernel
theorem dX5_digest_49 : decode cX5_digest 49 = .ok (.i2l, 1) := by decide +kernel
theorem dX5_digest_50 : decode cX5_digest 50 = .ok (.ladd, 1) := by decide +kernel
theorem dX5_digest_51 : decode cX5_digest 51 = .ok (.lstore_n 1, 1) := by decide +kernel
theorem dX5_digest_52 : decode cX5_digest 52 = .ok (.lload_n 1, 1) := by decide +kernel
theorem dX5_digest_53 : decode cX5_digest 53 = .ok (.ldc2_w 179, 3) := by decide +kernel
theorem dX5_digest_56 : decode cX5_digest 56 = .ok (.lmul, 1) := by decide +kernel
theorem dX5_digest_57 : decode cX5_digest 57 = .ok (.aload_n 0, 1) := by decide +kernel
theorem dX5_digest_58 : decode cX5_digest 58 = .ok (.invokevirtual 193, 3) := by decide +kernel
theorem dX5_digest_61 : decode cX5_digest 61 = .ok (.i2l, 1) := by decide +kernel
theorem dX5_digest_62 : decode cX5_digest 62 = .ok (.ladd, 1) := by decide +kernel
theorem dX5_digest_63 : decode cX5_digest 63 = .ok (.lstore_n 1, 1) := by decide +kernel
theorem dX5_digest_64 : decode cX5_digest 64 = .ok (.lload_n 1, 1) := by decide +kernel
theorem dX5_digest_65 : decode cX5_digest 65 = .ok (.ldc2_w 179, 3) := by decide +kernel
theorem dX5_digest_68 : decode cX5_digest 68 = .ok (.lmul, 1) := by decide +kernel
theorem dX5_digest_69 : decode cX5_digest 69 = .ok (.aload_n 0, 1) := by decide +kernel
theorem dX5_digest_70 : decode cX5_digest 70 = .ok (.invokevirtual 196, 3) := by decide +kernel
theorem dX5_digest_73 : decode cX5_digest 73 = .ok (.i2l, 1) := by decide +kernel
theorem dX5_digest_74 : decode cX5_digest 74 = .ok (.ladd, 1) := by decide +kernel
theorem dX5_digest_75 : decode cX5_digest 75 = .ok (.lstore_n 1, 1) := by decide +kernel
theorem dX5_digest_76 : decode cX5_digest 76 = .ok (.lload_n 1, 1) := by decide +kernel
theorem dX5_digest_77 : decode cX5_digest 77 = .ok (.ldc2_w 179, 3) := by decide +kernel
theorem dX5_digest_80 : decode cX5_digest 80 = .ok (.lmul, 1) := by decide +kernel
theorem dX5_digest_81 : decode cX5_digest 81 = .ok (.aload_n 0, 1) := by decide +kernel
theorem dX5_digest_82 : decode cX5_digest 82 = .ok (.invokevirtual 199, 3) := by decide +kernel
theorem dX5_digest_85 : decode cX5_digest 85 = .ok (.ifCond .eq 7, 3) := by decide +kernel
theorem dX5_digest_88 : decode cX5_digest 88 = .ok (.iconst 1, 1) := by decide +kernel
theorem dX5_digest_89 : decode cX5_digest 89 = .ok (.goto 4, 3) := by decide +kernel
theorem dX5_digest_92 : decode cX5_digest 92 = .ok (.iconst 0, 1) := by decide +kernel
theorem dX5_digest_93 : decode cX5_digest 93 = .ok (.i2l, 1) := by decide +kernel
theorem dX5_digest_94 : decode cX5_digest 94 = .ok (.ladd, 1) := by decide +kernel
theorem dX5_digest_95 : decode cX5_digest 95 = .ok (.lstore_n 1, 1) := by decide +kernel
theorem dX5_digest_96 : decode cX5_digest 96 = .ok (.lload_n 1, 1) := by decide +kernel
theorem dX5_digest_97 : decode cX5_digest 97 = .ok (.ldc2_w 179, 3) := by decide +kernel
theorem dX5_digest_100 : decode cX5_digest 100 = .ok (.lmul, 1) := by decide +kernel
theorem dX5_digest_101 : decode cX5_digest 101 = .ok (.aload_n 0, 1) := by decide +kernel
theorem dX5_digest_102 : decode cX5_digest 102 = .ok (.invokevirtual 202, 3) := by decide +kernel
theorem dX5_digest_105 : decode cX5_digest 105 = .ok (.i2l, 1) := by decide +kernel
theorem dX5_digest_106 : decode cX5_digest 106 = .ok (.ladd, 1) := by decide +kernel
theorem dX5_digest_107 : decode cX5_digest 107 = .ok (.lstore_n 1, 1) := by decide +kernel
theorem dX5_digest_108 : decode cX5_digest 108 = .ok (.aload_n 0, 1) := by decide +kernel
theorem dX5_digest_109 : decode cX5_digest 109 = .ok (.invokevirtual 184, 3) := by decide +kernel
theorem dX5_digest_112 : decode cX5_digest 112 = .ok (.istore_n 3, 1) := by decide +kernel
theorem dX5_digest_113 : decode cX5_digest 113 = .ok (.iconst 0, 1) := by decide +kernel
theorem dX5_digest_114 : decode cX5_digest 114 = .ok (.istore 4, 2) := by decide +kernel
theorem dX5_digest_116 : decode cX5_digest 116 = .ok (.iload 4, 2) := by decide +kernel
theorem dX5_digest_118 : decode cX5_digest 118 = .ok (.iload_n 3, 1) := by decide +kernel
theorem dX5_digest_119 : decode cX5_digest 119 = .ok (.if_icmp .ge 101, 3) := by decide +kernel
theorem dX5_digest_122 : decode cX5_digest 122 = .ok (.aload_n 0, 1) := by decide +kernel
theorem dX5_digest_123 : decode cX5_digest 123 = .ok (.iload 4, 2) := by decide +kernel
theorem dX5_digest_125 : decode cX5_digest 125 = .ok (.invokevirtual 205, 3) := by decide +kernel
theorem dX5_digest_128 : decode cX5_digest 128 = .ok (.istore 5, 2) := by decide +kernel
theorem dX5_digest_130 : decode cX5_digest 130 = .ok (.lload_n 1, 1) := by decide +kernel
theorem dX5_digest_131 : decode cX5_digest 131 = .ok (.ldc2_w 179, 3) := by decide +kernel
theorem dX5_digest_134 : decode cX5_digest 134 = .ok (.lmul, 1) := by decide +kernel
theorem dX5_digest_135 : decode cX5_digest 135 = .ok (.iload 5, 2) := by decide +kernel
theorem dX5_digest_137 : decode cX5_digest 137 = .ok (.i2l, 1) := by decide +kernel
theorem dX5_digest_138 : decode cX5_digest 138 = .ok (.ladd, 1) := by decide +kernel
theorem dX5_digest_139 : decode cX5_digest 139 = .ok (.lstore_n 1, 1) := by decide +kernel
theorem dX5_digest_140 : decode cX5_digest 140 = .ok (.iconst 0, 1) := by decide +kernel
theorem dX5_digest_141 : decode cX5_digest 141 = .ok (.istore 6, 2) := by decide +kernel
theorem dX5_digest_143 : decode cX5_digest 143 = .ok (.iload 6, 2) := by decide +kernel
theorem dX5_digest_145 : decode cX5_digest 145 = .ok (.iload 5, 2) := by decide +kernel
theorem dX5_digest_147 : decode cX5_digest 147 = .ok (.if_icmp .ge 25, 3) := by decide +kernel
theorem dX5_digest_150 : decode cX5_digest 150 = .ok (.lload_n 1, 1) := by decide +kernel
theorem dX5_digest_151 : decode cX5_digest 151 = .ok (.ldc2_w 179, 3) := by decide +kernel
theorem dX5_digest_154 : decode cX5_digest 154 = .ok (.lmul, 1) := by decide +kernel
theorem dX5_digest_155 : decode cX5_digest 155 = .ok (.aload_n 0, 1) := by decide +kernel
theorem dX5_digest_156 : decode cX5_digest 156 = .ok (.iload 4, 2) := by decide +kernel
theorem dX5_digest_158 : decode cX5_digest 158 = .ok (.iload 6, 2) := by decide +kernel
theorem dX5_digest_160 : decode cX5_digest 160 = .ok (.invokevirtual 208, 3) := by decide +kernel
theorem dX5_digest_163 : decode cX5_digest 163 = .ok (.i2l, 1) := by decide +kernel
theorem dX5_digest_164 : decode cX5_digest 164 = .ok (.ladd, 1) := by decide +kernel
theorem dX5_digest_165 : decode cX5_digest 165 = .ok (.lstore_n 1, 1) := by decide +kernel
theorem dX5_digest_166 : decode cX5_digest 166 = .ok (.iinc 6 1, 3) := by decide +kernel
theorem dX5_digest_169 : decode cX5_digest 169 = .ok (.goto (-26), 3) := by decide +kernel
theorem dX5_digest_172 : decode cX5_digest 172 = .ok (.lload_n 1, 1) := by decide +kernel
theorem dX5_digest_173 : decode cX5_digest 173 = .ok (.ldc2_w 179, 3) := by decide +kernel
theorem dX5_digest_176 : decode cX5_digest 176 = .ok (.lmul, 1) := by decide +kernel
theorem dX5_digest_177 : decode cX5_digest 177 = .ok (.aload_n 0, 1) := by decide +kernel
theorem dX5_digest_178 : decode cX5_digest 178 = .ok (.iload 4, 2) := by decide +kernel
theorem dX5_digest_180 : decode cX5_digest 180 = .ok (.invokevirtual 212, 3) := by decide +kernel
theorem dX5_digest_183 : decode cX5_digest 183 = .ok (.i2l, 1) := by decide +kernel
theorem dX5_digest_184 : decode cX5_digest 184 = .ok (.ladd, 1) := by decide +kernel
theorem dX5_digest_185 : decode cX5_digest 185 = .ok (.lstore_n 1, 1) := by decide +kernel
theorem dX5_digest_186 : decode cX5_digest 186 = .ok (.lload_n 1, 1) := by decide +kernel
theorem dX5_digest_187 : decode cX5_digest 187 = .ok (.ldc2_w 179, 3) := by decide +kernel
theorem dX5_digest_190 : decode cX5_digest 190 = .ok (.lmul, 1) := by decide +kernel
theorem dX5_digest_191 : decode cX5_digest 191 = .ok (.aload_n 0, 1) := by decide +kernel
theorem dX5_digest_192 : decode cX5_digest 192 = .ok (.iload 4, 2) := by decide +kernel
theorem dX5_digest_194 : decode cX5_digest 194 = .ok (.invokevirtual 215, 3) := by decide +kernel
theorem dX5_digest_197 : decode cX5_digest 197 = .ok (.i2l, 1) := by decide +kernel
theorem dX5_digest_198 : decode cX5_digest 198 = .ok (.ladd, 1) := by decide +kernel
theorem dX5_digest_199 : decode cX5_digest 199 = .ok (.lstore_n 1, 1) := by decide +kernel
theorem dX5_digest_200 : decode cX5_digest 200 = .ok (.lload_n 1, 1) := by decide +kernel
theorem dX5_digest_201 : decode cX5_digest 201 = .ok (.ldc2_w 179, 3) := by decide +kernel
theorem dX5_digest_204 : decode cX5_digest 204 = .ok (.lmul, 1) := by decide +kernel
theorem dX5_digest_205 : decode cX5_digest 205 = .ok (.aload_n 0, 1) := by decide +kernel
theorem dX5_digest_206 : decode cX5_digest 206 = .ok (.iload 4, 2) := by decide +kernel
theorem dX5_digest_208 : decode cX5_digest 208 = .ok (.invokevirtual 218, 3) := by decide +kernel
theorem dX5_digest_211 : decode cX5_digest 211 = .ok (.i2l, 1) := by decide +kernel
theorem dX5_digest_212 : decode cX5_digest 212 = .ok (.ladd, 1) := by decide +kernel
theorem dX5_digest_213 : decode cX5_digest 213 = .ok (.lstore_n 1, 1) := by decide +kernel
theorem dX5_digest_214 : decode cX5_digest 214 = .ok (.iinc 4 1, 3) := by decide +kernel
theorem dX5_digest_217 : decode cX5_digest 217 = .ok (.goto (-101), 3) := by decide +kernel
theorem dX5_digest_220 : decode cX5_digest 220 = .ok (.aload_n 0, 1) := by decide +kernel
theorem dX5_digest_221 : decode cX5_digest 221 = .ok (.invokevirtual 187, 3) := by decide +kernel
theorem dX5_digest_224 : decode cX5_digest 224 = .ok (.istore 4, 2) := by decide +kernel
theorem dX5_digest_226 : decode cX5_digest 226 = .ok (.iconst 0, 1) := by decide +kernel
theorem dX5_digest_227 : decode cX5_digest 227 = .ok (.istore 5, 2) := by decide +kernel
theorem dX5_digest_229 : decode cX5_digest 229 = .ok (.iload 5, 2) := by decide +kernel
theorem dX5_digest_231 : decode cX5_digest 231 = .ok (.iload 4, 2) := by decide +kernel
theorem dX5_digest_233 : decode cX5_digest 233 = .ok (.if_icmp .ge 107, 3) := by decide +kernel
theorem dX5_digest_236 : decode cX5_digest 236 = .ok (.lload_n 1, 1) := by decide +kernel
theorem dX5_digest_237 : decode cX5_digest 237 = .ok (.ldc2_w 179, 3) := by decide +kernel
theorem dX5_digest_240 : decode cX5_digest 240 = .ok (.lmul, 1) := by decide +kernel
theorem dX5_digest_241 : decode cX5_digest 241 = .ok (.aload_n 0, 1) := by decide +kernel
theorem dX5_digest_242 : decode cX5_digest 242 = .ok (.iload 5, 2) := by decide +kernel
theorem dX5_digest_244 : decode cX5_digest 244 = .ok (.invokevirtual 221, 3) := by decide +kernel
theorem dX5_digest_247 : decode cX5_digest 247 = .ok (.i2l, 1) := by decide +kernel
theorem dX5_digest_248 : decode cX5_digest 248 = .ok (.ladd, 1) := by decide +kernel
theorem dX5_digest_249 : decode cX5_digest 249 = .ok (.lstore_n 1, 1) := by decide +kernel
theorem dX5_digest_250 : decode cX5_digest 250 = .ok (.lload_n 1, 1) := by decide +kernel
theorem dX5_digest_251 : decode cX5_digest 251 = .ok (.ldc2_w 179, 3) := by decide +kernel
theorem dX5_digest_254 : decode cX5_digest 254 = .ok (.lmul, 1) := by decide +kernel
theorem dX5_digest_255 : decode cX5_digest 255 = .ok (.aload_n 0, 1) := by decide +kernel
theorem dX5_digest_256 : decode cX5_digest 256 = .ok (.iload 5, 2) := by decide +kernel
theorem dX5_digest_258 : decode cX5_digest 258 = .ok (.invokevirtual 224, 3) := by decide +kernel
theorem dX5_digest_261 : decode cX5_digest 261 = .ok (.i2l, 1) := by decide +kernel
theorem dX5_digest_262 : decode cX5_digest 262 = .ok (.ladd, 1) := by decide +kernel
theorem dX5_digest_263 : decode cX5_digest 263 = .ok (.lstore_n 1, 1) := by decide +kernel
theorem dX5_digest_264 : decode cX5_digest 264 = .ok (.lload_n 1, 1) := by decide +kernel
theorem dX5_digest_265 : decode cX5_digest 265 = .ok (.ldc2_w 179, 3) := by decide +kernel
theorem dX5_digest_268 : decode cX5_digest 268 = .ok (.lmul, 1) := by decide +kernel
theorem dX5_digest_269 : decode cX5_digest 269 = .ok (.aload_n 0, 1) := by decide +kernel
theorem dX5_digest_270 : decode cX5_digest 270 = .ok (.iload 5, 2) := by decide +kernel
theorem dX5_digest_272 : decode cX5_digest 272 = .ok (.invokevirtual 227, 3) := by decide +kernel
theorem dX5_digest_275 : decode cX5_digest 275 = .ok (.i2l, 1) := by decide +kernel
theorem dX5_digest_276 : decode cX5_digest 276 = .ok (.ladd, 1) := by decide +kernel
theorem dX5_digest_277 : decode cX5_digest 277 = .ok (.lstore_n 1, 1) := by decide +kernel
theorem dX5_digest_278 : decode cX5_digest 278 = .ok (.lload_n 1, 1) := by decide +kernel
theorem dX5_digest_279 : decode cX5_digest 279 = .ok (.ldc2_w 179, 3) := by decide +kernel
theorem dX5_digest_282 : decode cX5_digest 282 = .ok (.lmul, 1) := by decide +kernel
theorem dX5_digest_283 : decode cX5_digest 283 = .ok (.aload_n 0, 1) := by decide +kernel
theorem dX5_digest_284 : decode cX5_digest 284 = .ok (.iload 5, 2) := by decide +kernel
theorem dX5_digest_286 : decode cX5_digest 286 = .ok (.invokevirtual 230, 3) := by decide +kernel
theorem dX5_digest_289 : decode cX5_digest 289 = .ok (.i2l, 1) := by decide +kernel
theorem dX5_digest_290 : decode cX5_digest 290 = .ok (.ladd, 1) := by decide +kernel
theorem dX5_digest_291 : decode cX5_digest 291 = .ok (.lstore_n 1, 1) := by decide +kernel
theorem dX5_digest_292 : decode cX5_digest 292 = .ok (.lload_n 1, 1) := by decide +kernel
theorem dX5_digest_293 : decode cX5_digest 293 = .ok (.ldc2_w 179, 3) := by decide +kernel
theorem dX5_digest_296 : decode cX5_digest 296 = .ok (.lmul, 1) := by decide +kernel
theorem dX5_digest_297 : decode cX5_digest 297 = .ok (.aload_n 0, 1) := by decide +kernel
theorem dX5_digest_298 : decode cX5_digest 298 = .ok (.iload 5, 2) := by decide +kernel
theorem dX5_digest_300 : decode cX5_digest 300 = .ok (.invokevirtual 233, 3) := by decide +kernel
theorem dX5_digest_303 : decode cX5_digest 303 = .ok (.i2l, 1) := by decide +kernel
theorem dX5_digest_304 : decode cX5_digest 304 = .ok (.ladd, 1) := by decide +kernel
theorem dX5_digest_305 : decode cX5_digest 305 = .ok (.lstore_n 1, 1) := by decide +kernel
theorem dX5_digest_306 : decode cX5_digest 306 = .ok (.lload_n 1, 1) := by decide +kernel
theorem dX5_digest_307 : decode cX5_digest 307 = .ok (.ldc2_w 179, 3) := by decide +kernel
theorem dX5_digest_310 : decode cX5_digest 310 = .ok (.lmul, 1) := by decide +kernel
theorem dX5_digest_311 : decode cX5_digest 311 = .ok (.aload_n 0, 1) := by decide +kernel
theorem dX5_digest_312 : decode cX5_digest 312 = .ok (.iload 5, 2) := by decide +kernel
theorem dX5_digest_314 : decode cX5_digest 314 = .ok (.invokevirtual 236, 3) := by decide +kernel
theorem dX5_digest_317 : decode cX5_digest 317 = .ok (.i2l, 1) := by decide +kernel
theorem dX5_digest_318 : decode cX5_digest 318 = .ok (.ladd, 1) := by decide +kernel
theorem dX5_digest_319 : decode cX5_digest 319 = .ok (.lstore_n 1, 1) := by decide +kernel
theorem dX5_digest_320 : decode cX5_digest 320 = .ok (.lload_n 1, 1) := by decide +kernel
theorem dX5_digest_321 : decode cX5_digest 321 = .ok (.ldc2_w 179, 3) := by decide +kernel
theorem dX5_digest_324 : decode cX5_digest 324 = .ok (.lmul, 1) := by decide +kernel
theorem dX5_digest_325 : decode cX5_digest 325 = .ok (.aload_n 0, 1) := by decide +kernel
theorem dX5_digest_326 : decode cX5_digest 326 = .ok (.iload 5, 2) := by decide +kernel
theorem dX5_digest_328 : decode cX5_digest 328 = .ok (.invokevirtual 239, 3) := by decide +kernel
theorem dX5_digest_331 : decode cX5_digest 331 = .ok (.i2l, 1) := by decide +kernel
theorem dX5_digest_332 : decode cX5_digest 332 = .ok (.ladd, 1) := by decide +kernel
theorem dX5_digest_333 : decode cX5_digest 333 = .ok (.lstore_n 1, 1) := by decide +kernel
theorem dX5_digest_334 : decode cX5_digest 334 = .ok (.iinc 5 1, 3) := by decide +kernel
theorem dX5_digest_337 : decode cX5_digest 337 = .ok (.goto (-108), 3) := by decide +kernel
theorem dX5_digest_340 : decode cX5_digest 340 = .ok (.lload_n 1, 1) := by decide +kernel
theorem dX5_digest_341 : decode cX5_digest 341 = .ok (.lreturn, 1) := by decide +kernel
theorem dX5_checkChannel_0 : decode cX5_checkChannel 0 = .ok (.aload_n 0, 1) := by decide +kernel
theorem dX5_checkChannel_1 : decode cX5_checkChannel 1 = .ok (.iload_n 1, 1) := by decide +kernel
theorem dX5_checkChannel_2 : decode cX5_checkChannel 2 = .ok (.invokevirtual 242, 3) := by decide +kernel
theorem dX5_checkChannel_5 : decode cX5_checkChannel 5 = .ok (.ifCond .ne 13, 3) := by decide +kernel
theorem dX5_checkChannel_8 : decode cX5_checkChannel 8 = .ok (.new 150, 3) := by decide +kernel
theorem dX5_checkChannel_11 : decode cX5_checkChannel 11 = .ok (.dup, 1) := by decide +kernel
theorem dX5_checkChannel_12 : decode cX5_checkChannel 12 = .ok (.ldc 245, 2) := by decide +kernel
theorem dX5_checkChannel_14 : decode cX5_checkChannel 14 = .ok (.invokespecial 154, 3) := by decide +kernel
theorem dX5_checkChannel_17 : decode cX5_checkChannel 17 = .ok (.athrow, 1) := by decide +kernel
theorem dX5_checkChannel_18 : decode cX5_checkChannel 18 = .ok (.return_, 1) := by decide +kernel
theorem dX5_checkFiber_0 : decode cX5_checkFiber 0 = .ok (.aload_n 0, 1) := by decide +kernel
theorem dX5_checkFiber_1 : decode cX5_checkFiber 1 = .ok (.iload_n 1, 1) := by decide +kernel
theorem dX5_checkFiber_2 : decode cX5_checkFiber 2 = .ok (.invokevirtual 247, 3) := by decide +kernel
theorem dX5_checkFiber_5 : decode cX5_checkFiber 5 = .ok (.ifCond .ne 13, 3) := by decide +kernel
theorem dX5_checkFiber_8 : decode cX5_checkFiber 8 = .ok (.new 150, 3) := by decide +kernel
theorem dX5_checkFiber_11 : decode cX5_checkFiber 11 = .ok (.dup, 1) := by decide +kernel
theorem dX5_checkFiber_12 : decode cX5_checkFiber 12 = .ok (.ldc 250, 2) := by decide +kernel
theorem dX5_checkFiber_14 : decode cX5_checkFiber 14 = .ok (.invokespecial 154, 3) := by decide +kernel
theorem dX5_checkFiber_17 : decode cX5_checkFiber 17 = .ok (.athrow, 1) := by decide +kernel
theorem dX5_checkFiber_18 : decode cX5_checkFiber 18 = .ok (.return_, 1) := by decide +kernel
theorem dX5_checkTurns_0 : decode cX5_checkTurns 0 = .ok (.iload_n 1, 1) := by decide +kernel
theorem dX5_checkTurns_1 : decode cX5_checkTurns 1 = .ok (.iconst 1, 1) := by decide +kernel
theorem dX5_checkTurns_2 : decode cX5_checkTurns 2 = .ok (.if_icmp .lt 9, 3) := by decide +kernel
theorem dX5_checkTurns_5 : decode cX5_checkTurns 5 = .ok (.iload_n 1, 1) := by decide +kernel
theorem dX5_checkTurns_6 : decode cX5_checkTurns 6 = .ok (.bipush 60, 2) := by decide +kernel
theorem dX5_checkTurns_8 : decode cX5_checkTurns 8 = .ok (.if_icmp .le 13, 3) := by decide +kernel
theorem dX5_checkTurns_11 : decode cX5_checkTurns 11 = .ok (.new 19, 3) := by decide +kernel
theorem dX5_checkTurns_14 : decode cX5_checkTurns 14 = .ok (.dup, 1) := by decide +kernel
theorem dX5_checkTurns_15 : decode cX5_checkTurns 15 = .ok (.ldc 252, 2) := by decide +kernel
theorem dX5_checkTurns_17 : decode cX5_checkTurns 17 = .ok (.invokespecial 23, 3) := by decide +kernel
theorem dX5_checkTurns_20 : decode cX5_checkTurns 20 = .ok (.athrow, 1) := by decide +kernel
theorem dX5_checkTurns_21 : decode cX5_checkTurns 21 = .ok (.return_, 1) := by decide +kernel
theorem dX5_isChannel_0 : decode cX5_isChannel 0 = .ok (.iload_n 1, 1) := by decide +kernel
theorem dX5_isChannel_1 : decode cX5_isChannel 1 = .ok (.ifCond .lt 18, 3) := by decide +kernel
theorem dX5_isChannel_4 : decode cX5_isChannel 4 = .ok (.iload_n 1, 1) := by decide +kernel
theorem dX5_isChannel_5 : decode cX5_isChannel 5 = .ok (.aload_n 0, 1) := by decide +kernel
theorem dX5_isChannel_6 : decode cX5_isChannel 6 = .ok (.getfield 10, 3) := by decide +kernel
theorem dX5_isChannel_9 : decode cX5_isChannel 9 = .ok (.getfield 26, 3) := by decide +kernel
theorem dX5_isChannel_12 : decode cX5_isChannel 12 = .ok (.if_icmp .ge 7, 3) := by decide +kernel
theorem dX5_isChannel_15 : decode cX5_isChannel 15 = .ok (.iconst 1, 1) := by decide +kernel
theorem dX5_isChannel_16 : decode cX5_isChannel 16 = .ok (.goto 4, 3) := by decide +kernel
theorem dX5_isChannel_19 : decode cX5_isChannel 19 = .ok (.iconst 0, 1) := by decide +kernel
theorem dX5_isChannel_20 : decode cX5_isChannel 20 = .ok (.ireturn, 1) := by decide +kernel
theorem dX5_isFiber_0 : decode cX5_isFiber 0 = .ok (.iload_n 1, 1) := by decide +kernel
theorem dX5_isFiber_1 : decode cX5_isFiber 1 = .ok (.ifCond .lt 18, 3) := by decide +kernel
theorem dX5_isFiber_4 : decode cX5_isFiber 4 = .ok (.iload_n 1, 1) := by decide +kernel
theorem dX5_isFiber_5 : decode cX5_isFiber 5 = .ok (.aload_n 0, 1) := by decide +kernel
theorem dX5_isFiber_6 : decode cX5_isFiber 6 = .ok (.getfield 10, 3) := by decide +kernel
theorem dX5_isFiber_9 : decode cX5_isFiber 9 = .ok (.getfield 44, 3) := by decide +kernel
theorem dX5_isFiber_12 : decode cX5_isFiber 12 = .ok (.if_icmp .ge 7, 3) := by decide +kernel
theorem dX5_isFiber_15 : decode cX5_isFiber 15 = .ok (.iconst 1, 1) := by decide +kernel
theorem dX5_isFiber_16 : decode cX5_isFiber 16 = .ok (.goto 4, 3) := by decide +kernel
theorem dX5_isFiber_19 : decode cX5_isFiber 19 = .ok (.iconst 0, 1) := by decide +kernel
theorem dX5_isFiber_20 : decode cX5_isFiber 20 = .ok (.ireturn, 1) := by decide +kernel
theorem dX5_isValue_0 : decode cX5_isValue 0 = .ok (.iload_n 1, 1) := by decide +kernel
theorem dX5_isValue_1 : decode cX5_isValue 1 = .ok (.sipush (-999), 3) := by decide +kernel
theorem dX5_isValue_4 : decode cX5_isValue 4 = .ok (.if_icmp .lt 14, 3) := by decide +kernel
theorem dX5_isValue_7 : decode cX5_isValue 7 = .ok (.iload_n 1, 1) := by decide +kernel
theorem dX5_isValue_8 : decode cX5_isValue 8 = .ok (.sipush 999, 3) := by decide +kernel
theorem dX5_isValue_11 : decode cX5_isValue 11 = .ok (.if_icmp .gt 7, 3) := by decide +kernel
theorem dX5_isValue_14 : decode cX5_isValue 14 = .ok (.iconst 1, 1) := by decide +kernel
theorem dX5_isValue_15 : decode cX5_isValue 15 = .ok (.goto 4, 3) := by decide +kernel
theorem dX5_isValue_18 : decode cX5_isValue 18 = .ok (.iconst 0, 1) := by decide +kernel
theorem dX5_isValue_19 : decode cX5_isValue 19 = .ok (.ireturn, 1) := by decide +kernel
theorem dX5_isStep_0 : decode cX5_isStep 0 = .ok (.iload_n 2, 1) := by decide +kernel
theorem dX5_isStep_1 : decode cX5_isStep 1 = .ok (.tableswitch 148 0 6 #[43, 66, 72, 89, 91, 110, 66], 43) := by decide +kernel
theorem dX5_isStep_44 : decode cX5_isStep 44 = .ok (.aload_n 0, 1) := by decide +kernel
theorem dX5_isStep_45 : decode cX5_isStep 45 = .ok (.iload_n 3, 1) := by decide +kernel
theorem dX5_isStep_46 : decode cX5_isStep 46 = .ok (.invokevirtual 242, 3) := by decide +kernel
theorem dX5_isStep_49 : decode cX5_isStep 49 = .ok (.ifCond .eq 16, 3) := by decide +kernel
theorem dX5_isStep_52 : decode cX5_isStep 52 = .ok (.aload_n 0, 1) := by decide +kernel
theorem dX5_isStep_53 : decode cX5_isStep 53 = .ok (.iload 4, 2) := by decide +kernel
theorem dX5_isStep_55 : decode cX5_isStep 55 = .ok (.invokevirtual 90, 3) := by decide +kernel
theorem dX5_isStep_58 : decode cX5_isStep 58 = .ok (.ifCond .eq 7, 3) := by decide +kernel
theorem dX5_isStep_61 : decode cX5_isStep 61 = .ok (.iconst 1, 1) := by decide +kernel
theorem dX5_isStep_62 : decode cX5_isStep 62 = .ok (.goto 4, 3) := by decide +kernel
theorem dX5_isStep_65 : decode cX5_isStep 65 = .ok (.iconst 0, 1) := by decide +kernel
theorem dX5_isStep_66 : decode cX5_isStep 66 = .ok (.ireturn, 1) := by decide +kernel
theorem dX5_isStep_67 : decode cX5_isStep 67 = .ok (.aload_n 0, 1) := by decide +kernel
theorem dX5_isStep_68 : decode cX5_isStep 68 = .ok (.iload_n 3, 1) := by decide +kernel
theorem dX5_isStep_69 : decode cX5_isStep 69 = .ok (.invokevirtual 242, 3) := by decide +kernel
theorem dX5_isStep_72 : decode cX5_isStep 72 = .ok (.ireturn, 1) := by decide +kernel
theorem dX5_isStep_73 : decode cX5_isStep 73 = .ok (.iload_n 3, 1) := by decide +kernel
theorem dX5_isStep_74 : decode cX5_isStep 74 = .ok (.iconst 1, 1) := by decide +kernel
theorem dX5_isStep_75 : decode cX5_isStep 75 = .ok (.if_icmp .lt 13, 3) := by decide +kernel
theorem dX5_isStep_78 : decode cX5_isStep 78 = .ok (.iload_n 3, 1) := by decide +kernel
theorem dX5_isStep_79 : decode cX5_isStep 79 = .ok (.bipush 20, 2) := by decide +kernel
theorem dX5_isStep_81 : decode cX5_isStep 81 = .ok (.if_icmp .gt 7, 3) := by decide +kernel
theorem dX5_isStep_84 : decode cX5_isStep 84 = .ok (.iconst 1, 1) := by decide +kernel
theorem dX5_isStep_85 : decode cX5_isStep 85 = .ok (.goto 4, 3) := by decide +kernel
theorem dX5_isStep_88 : decode cX5_isStep 88 = .ok (.iconst 0, 1) := by decide +kernel
theorem dX5_isStep_89 : decode cX5_isStep 89 = .ok (.ireturn, 1) := by decide +kernel
theorem dX5_isStep_90 : decode cX5_isStep 90 = .ok (.iconst 1, 1) := by decide +kernel
theorem dX5_isStep_91 : decode cX5_isStep 91 = .ok (.ireturn, 1) := by decide +kernel
theorem dX5_isStep_92 : decode cX5_isStep 92 = .ok (.aload_n 0, 1) := by decide +kernel
theorem dX5_isStep_93 : decode cX5_isStep 93 = .ok (.iload_n 3, 1) := by decide +kernel
theorem dX5_isStep_94 : decode cX5_isStep 94 = .ok (.invokevirtual 247, 3) := by decide +kernel
theorem dX5_isStep_97 : decode cX5_isStep 97 = .ok (.ifCond .eq 12, 3) := by decide +kernel
theorem dX5_isStep_100 : decode cX5_isStep 100 = .ok (.iload_n 3, 1) := by decide +kernel
theorem dX5_isStep_101 : decode cX5_isStep 101 = .ok (.iload_n 1, 1) := by decide +kernel
theorem dX5_isStep_102 : decode cX5_isStep 102 = .ok (.if_icmp .eq 7, 3) := by decide +kernel
theorem dX5_isStep_105 : decode cX5_isStep 105 = .ok (.iconst 1, 1) := by decide +kernel
theorem dX5_isStep_106 : decode cX5_isStep 106 = .ok (.goto 4, 3) := by decide +kernel
theorem dX5_isStep_109 : decode cX5_isStep 109 = .ok (.iconst 0, 1) := by decide +kernel
theorem dX5_isStep_110 : decode cX5_isStep 110 = .ok (.ireturn, 1) := by decide +kernel
theorem dX5_isStep_111 : decode cX5_isStep 111 = .ok (.iload_n 3, 1) := by decide +kernel
theorem dX5_isStep_112 : decode cX5_isStep 112 = .ok (.ifCond .lt 35, 3) := by decide +kernel
theorem dX5_isStep_115 : decode cX5_isStep 115 = .ok (.iload_n 3, 1) := by decide +kernel
theorem dX5_isStep_116 : decode cX5_isStep 116 = .ok (.aload_n 0, 1) := by decide +kernel
theorem dX5_isStep_117 : decode cX5_isStep 117 = .ok (.getfield 10, 3) := by decide +kernel
theorem dX5_isStep_120 : decode cX5_isStep 120 = .ok (.iload_n 1, 1) := by decide +kernel
theorem dX5_isStep_121 : decode cX5_isStep 121 = .ok (.invokevirtual 59, 3) := by decide +kernel
theorem dX5_isStep_124 : decode cX5_isStep 124 = .ok (.getfield 63, 3) := by decide +kernel
theorem dX5_isStep_127 : decode cX5_isStep 127 = .ok (.if_icmp .gt 20, 3) := by decide +kernel
theorem dX5_isStep_130 : decode cX5_isStep 130 = .ok (.iload 4, 2) := by decide +kernel
theorem dX5_isStep_132 : decode cX5_isStep 132 = .ok (.iconst 1, 1) := by decide +kernel
theorem dX5_isStep_133 : decode cX5_isStep 133 = .ok (.if_icmp .lt 14, 3) := by decide +kernel
theorem dX5_isStep_136 : decode cX5_isStep 136 = .ok (.iload 4, 2) := by decide +kernel
theorem dX5_isStep_138 : decode cX5_isStep 138 = .ok (.bipush 9, 2) := by decide +kernel
theorem dX5_isStep_140 : decode cX5_isStep 140 = .ok (.if_icmp .gt 7, 3) := by decide +kernel
theorem dX5_isStep_143 : decode cX5_isStep 143 = .ok (.iconst 1, 1) := by decide +kernel
theorem dX5_isStep_144 : decode cX5_isStep 144 = .ok (.goto 4, 3) := by decide +kernel
theorem dX5_isStep_147 : decode cX5_isStep 147 = .ok (.iconst 0, 1) := by decide +kernel
theorem dX5_isStep_148 : decode cX5_isStep 148 = .ok (.ireturn, 1) := by decide +kernel
theorem dX5_isStep_149 : decode cX5_isStep 149 = .ok (.iconst 0, 1) := by decide +kernel
theorem dX5_isStep_150 : decode cX5_isStep 150 = .ok (.ireturn, 1) := by decide +kernel
theorem dX6_init_0 : decode cX6_init 0 = .ok (.aload_n 0, 1) := by decide +kernel
theorem dX6_init_1 : decode cX6_init 1 = .ok (.invokespecial 3, 3) := by decide +kernel
theorem dX6_init_4 : decode cX6_init 4 = .ok (.aload_n 0, 1) := by decide +kernel
theorem dX6_init_5 : decode cX6_init 5 = .ok (.bipush 8, 2) := by decide +kernel
theorem dX6_init_7 : decode cX6_init 7 = .ok (.newarray .int, 2) := by decide +kernel
theorem dX6_init_9 : decode cX6_init 9 = .ok (.putfield 9, 3) := by decide +kernel
theorem dX6_init_12 : decode cX6_init 12 = .ok (.aload_n 0, 1) := by decide +kernel
theorem dX6_init_13 : decode cX6_init 13 = .ok (.bipush 96, 2) := by decide +kernel
theorem dX6_init_15 : decode cX6_init 15 = .ok (.newarray .int, 2) := by decide +kernel
theorem dX6_init_17 : decode cX6_init 17 = .ok (.putfield 13, 3) := by decide +kernel
theorem dX6_init_20 : decode cX6_init 20 = .ok (.aload_n 0, 1) := by decide +kernel
theorem dX6_init_21 : decode cX6_init 21 = .ok (.bipush 96, 2) := by decide +kernel
theorem dX6_init_23 : decode cX6_init 23 = .ok (.newarray .int, 2) := by decide +kernel
theorem dX6_init_25 : decode cX6_init 25 = .ok (.putfield 16, 3) := by decide +kernel
theorem dX6_init_28 : decode cX6_init 28 = .ok (.aload_n 0, 1) := by decide +kernel
theorem dX6_init_29 : decode cX6_init 29 = .ok (.bipush 96, 2) := by decide +kernel
theorem dX6_init_31 : decode cX6_init 31 = .ok (.newarray .int, 2) := by decide +kernel
theorem dX6_init_33 : decode cX6_init 33 = .ok (.putfield 19, 3) := by decide +kernel
theorem dX6_init_36 : decode cX6_init 36 = .ok (.aload_n 0, 1) := by decide +kernel
theorem dX6_init_37 : decode cX6_init 37 = .ok (.sipush 204, 3) := by decide +kernel
theorem dX6_init_40 : decode cX6_init 40 = .ok (.newarray .int, 2) := by decide +kernel
theorem dX6_init_42 : decode cX6_init 42 = .ok (.putfield 22, 3) := by decide +kernel
theorem dX6_init_45 : decode cX6_init 45 = .ok (.aload_n 0, 1) := by decide +kernel
theorem dX6_init_46 : decode cX6_init 46 = .ok (.sipush 204, 3) := by decide +kernel
theorem dX6_init_49 : decode cX6_init 49 = .ok (.newarray .int, 2) := by decide +kernel
theorem dX6_init_51 : decode cX6_init 51 = .ok (.putfield 25, 3) := by decide +kernel
theorem dX6_init_54 : decode cX6_init 54 = .ok (.return_, 1) := by decide +kernel
theorem dX6_thrown_0 : decode cX6_thrown 0 = .ok (.aload_n 0, 1) := by decide +kernel
theorem dX6_thrown_1 : decode cX6_thrown 1 = .ok (.getfield 28, 3) := by decide +kernel
theorem dX6_thrown_4 : decode cX6_thrown 4 = .ok (.ireturn, 1) := by decide +kernel
theorem dX6_no_0 : decode cX6_no 0 = .ok (.aload_n 0, 1) := by decide +kernel
theorem dX6_no_1 : decode cX6_no 1 = .ok (.iload_n 1, 1) := by decide +kernel
theorem dX6_no_2 : decode cX6_no 2 = .ok (.putfield 28, 3) := by decide +kernel
theorem dX6_no_5 : decode cX6_no 5 = .ok (.iconst 0, 1) := by decide +kernel
theorem dX6_no_6 : decode cX6_no 6 = .ok (.ireturn, 1) := by decide +kernel
theorem dX6_ok_0 : decode cX6_ok 0 = .ok (.aload_n 0, 1) := by decide +kernel
theorem dX6_ok_1 : decode cX6_ok 1 = .ok (.iconst 0, 1) := by decide +kernel
theorem dX6_ok_2 : decode cX6_ok 2 = .ok (.putfield 28, 3) := by decide +kernel
theorem dX6_ok_5 : decode cX6_ok 5 = .ok (.iload_n 1, 1) := by decide +kernel
theorem dX6_ok_6 : decode cX6_ok 6 = .ok (.ireturn, 1) := by decide +kernel
theorem dX6_isFrom_0 : decode cX6_isFrom 0 = .ok (.iload_n 0, 1) := by decide +kernel
theorem dX6_isFrom_1 : decode cX6_isFrom 1 = .ok (.iload_n 1, 1) := by decide +kernel
theorem dX6_isFrom_2 : decode cX6_isFrom 2 = .ok (.if_icmp .lt 12, 3) := by decide +kernel
theorem dX6_isFrom_5 : decode cX6_isFrom 5 = .ok (.iload_n 0, 1) := by decide +kernel
theorem dX6_isFrom_6 : decode cX6_isFrom 6 = .ok (.iload_n 2, 1) := by decide +kernel
theorem dX6_isFrom_7 : decode cX6_isFrom 7 = .ok (.if_icmp .gt 7, 3) := by decide +kernel
theorem dX6_isFrom_10 : decode cX6_isFrom 10 = .ok (.iconst 1, 1) := by decide +kernel
theorem dX6_isFrom_11 : decode cX6_isFrom 11 = .ok (.goto 4, 3) := by decide +kernel
theorem dX6_isFrom_14 : decode cX6_isFrom 14 = .ok (.iconst 0, 1) := by decide +kernel
theorem dX6_isFrom_15 : decode cX6_isFrom 15 = .ok (.ireturn, 1) := by decide +kernel
theorem dX6_isChannel_0 : decode cX6_isChannel 0 = .ok (.iload_n 1, 1) := by decide +kernel
theorem dX6_isChannel_1 : decode cX6_isChannel 1 = .ok (.iconst 0, 1) := by decide +kernel
theorem dX6_isChannel_2 : decode cX6_isChannel 2 = .ok (.aload_n 0, 1) := by decide +kernel
theorem dX6_isChannel_3 : decode cX6_isChannel 3 = .ok (.getfield 32, 3) := by decide +kernel
theorem dX6_isChannel_6 : decode cX6_isChannel 6 = .ok (.iconst 1, 1) := by decide +kernel
theorem dX6_isChannel_7 : decode cX6_isChannel 7 = .ok (.isub, 1) := by decide +kernel
theorem dX6_isChannel_8 : decode cX6_isChannel 8 = .ok (.invokestatic 35, 3) := by decide +kernel
theorem dX6_isChannel_11 : decode cX6_isChannel 11 = .ok (.ireturn, 1) := by decide +kernel
theorem dX6_isFiber_0 : decode cX6_isFiber 0 = .ok (.iload_n 1, 1) := by decide +kernel
theorem dX6_isFiber_1 : decode cX6_isFiber 1 = .ok (.iconst 0, 1) := by decide +kernel
theorem dX6_isFiber_2 : decode cX6_isFiber 2 = .ok (.aload_n 0, 1) := by decide +kernel
theorem dX6_isFiber_3 : decode cX6_isFiber 3 = .ok (.getfield 39, 3) := by decide +kernel
theorem dX6_isFiber_6 : decode cX6_isFiber 6 = .ok (.iconst 1, 1) := by decide +kernel
theorem dX6_isFiber_7 : decode cX6_isFiber 7 = .ok (.isub, 1) := by decide +kernel
theorem dX6_isFiber_8 : decode cX6_isFiber 8 = .ok (.invokestatic 35, 3) := by decide +kernel
theorem dX6_isFiber_11 : decode cX6_isFiber 11 = .ok (.ireturn, 1) := by decide +kernel
theorem dX6_keep_0 : decode cX6_keep 0 = .ok (.aload_n 0, 1) := by decide +kernel
theorem dX6_keep_1 : decode cX6_keep 1 = .ok (.getfield 22, 3) := by decide +kernel
theorem dX6_keep_4 : decode cX6_keep 4 = .ok (.iconst 0, 1) := by decide +kernel
theorem dX6_keep_5 : decode cX6_keep 5 = .ok (.aload_n 0, 1) := by decide +kernel
theorem dX6_keep_6 : decode cX6_keep 6 = .ok (.getfield 25, 3) := by decide +kernel
theorem dX6_keep_9 : decode cX6_keep 9 = .ok (.iconst 0, 1) := by decide +kernel
theorem dX6_keep_10 : decode cX6_keep 10 = .ok (.sipush 204, 3) := by decide +kernel
theorem dX6_keep_13 : decode cX6_keep 13 = .ok (.invokestatic 42, 3) := by decide +kernel
theorem dX6_keep_16 : decode cX6_keep 16 = .ok (.return_, 1) := by decide +kernel
theorem dX6_bringBack_0 : decode cX6_bringBack 0 = .ok (.aload_n 0, 1) := by decide +kernel
theorem dX6_bringBack_1 : decode cX6_bringBack 1 = .ok (.getfield 25, 3) := by decide +kernel
theorem dX6_bringBack_4 : decode cX6_bringBack 4 = .ok (.iconst 0, 1) := by decide +kernel
theorem dX6_bringBack_5 : decode cX6_bringBack 5 = .ok (.aload_n 0, 1) := by decide +kernel
theorem dX6_bringBack_6 : decode cX6_bringBack 6 = .ok (.getfield 22, 3) := by decide +kernel
theorem dX6_bringBack_9 : decode cX6_bringBack 9 = .ok (.iconst 0, 1) := by decide +kernel
theorem dX6_bringBack_10 : decode cX6_bringBack 10 = .ok (.sipush 204, 3) := by decide +kernel
theorem dX6_bringBack_13 : decode cX6_bringBack 13 = .ok (.invokestatic 42, 3) := by decide +kernel
theorem dX6_bringBack_16 : decode cX6_bringBack 16 = .ok (.return_, 1) := by decide +kernel
theorem dX6_ready_0 : decode cX6_ready 0 = .ok (.aload_n 0, 1) := by decide +kernel
theorem dX6_ready_1 : decode cX6_ready 1 = .ok (.getfield 22, 3) := by decide +kernel
theorem dX6_ready_4 : decode cX6_ready 4 = .ok (.bipush 12, 2) := by decide +kernel
theorem dX6_ready_6 : decode cX6_ready 6 = .ok (.iload_n 1, 1) := by decide +kernel
theorem dX6_ready_7 : decode cX6_ready 7 = .ok (.iadd, 1) := by decide +kernel
theorem dX6_ready_8 : decode cX6_ready 8 = .ok (.iconst 0, 1) := by decide +kernel
theorem dX6_ready_9 : decode cX6_ready 9 = .ok (.iastore, 1) := by decide +kernel
theorem dX6_ready_10 : decode cX6_ready 10 = .ok (.aload_n 0, 1) := by decide +kernel
theorem dX6_ready_11 : decode cX6_ready 11 = .ok (.getfield 22, 3) := by decide +kernel
theorem dX6_ready_14 : decode cX6_ready 14 = .ok (.iconst 4, 1) := by decide +kernel
theorem dX6_ready_15 : decode cX6_ready 15 = .ok (.aload_n 0, 1) := by decide +kernel
theorem dX6_ready_16 : decode cX6_ready 16 = .ok (.getfield 22, 3) := by decide +kernel
theorem dX6_ready_19 : decode cX6_ready 19 = .ok (.iconst 3, 1) := by decide +kernel
theorem dX6_ready_20 : decode cX6_ready 20 = .ok (.iaload, 1) := by decide +kernel
theorem dX6_ready_21 : decode cX6_ready 21 = .ok (.iadd, 1) := by decide +kernel
theorem dX6_ready_22 : decode cX6_ready 22 = .ok (.iload_n 1, 1) := by decide +kernel
theorem dX6_ready_23 : decode cX6_ready 23 = .ok (.iastore, 1) := by decide +kernel
theorem dX6_ready_24 : decode cX6_ready 24 = .ok (.aload_n 0, 1) := by decide +kernel
theorem dX6_ready_25 : decode cX6_ready 25 = .ok (.getfield 22, 3) := by decide +kernel
theorem dX6_ready_28 : decode cX6_ready 28 = .ok (.iconst 3, 1) := by decide +kernel
theorem dX6_ready_29 : decode cX6_ready 29 = .ok (.dup2, 1) := by decide +kernel
theorem dX6_ready_30 : decode cX6_ready 30 = .ok (.iaload, 1) := by decide +kernel
theorem dX6_ready_31 : decode cX6_ready 31 = .ok (.iconst 1, 1) := by decide +kernel
theorem dX6_ready_32 : decode cX6_ready 32 = .ok (.iadd, 1) := by decide +kernel
theorem dX6_ready_33 : decode cX6_ready 33 = .ok (.iastore, 1) := by decide +kernel
theorem dX6_ready_34 : decode cX6_ready 34 = .ok (.return_, 1) := by decide +kernel
theorem dX6_wake_0 : decode cX6_wake 0 = .ok (.iconst (-1), 1) := by decide +kernel
theorem dX6_wake_1 : decode cX6_wake 1 = .ok (.istore_n 3, 1) := by decide +kernel
theorem dX6_wake_2 : decode cX6_wake 2 = .ok (.iconst 0, 1) := by decide +kernel
theorem dX6_wake_3 : decode cX6_wake 3 = .ok (.istore 4, 2) := by decide +kernel
theorem dX6_wake_5 : decode cX6_wake 5 = .ok (.iload 4, 2) := by decide +kernel
theorem dX6_wake_7 : decode cX6_wake 7 = .ok (.aload_n 0, 1) := by decide +kernel
theorem dX6_wake_8 : decode cX6_wake 8 = .ok (.getfield 39, 3) := by decide +kernel
theorem dX6_wake_11 : decode cX6_wake 11 = .ok (.if_icmp .ge 50, 3) := by decide +kernel
theorem dX6_wake_14 : decode cX6_wake 14 = .ok (.aload_n 0, 1) := by decide +kernel
theorem dX6_wake_15 : decode cX6_wake 15 = .ok (.iload 4, 2) := by decide +kernel
theorem dX6_wake_17 : decode cX6_wake 17 = .ok (.iload_n 1, 1) := by decide +kernel
theorem dX6_wake_18 : decode cX6_wake 18 = .ok (.iload_n 2, 1) := by decide +kernel
theorem dX6_wake_19 : decode cX6_wake 19 = .ok (.invokevirtual 48, 3) := by decide +kernel
theorem dX6_wake_22 : decode cX6_wake 22 = .ok (.ifCond .eq 33, 3) := by decide +kernel
theorem dX6_wake_25 : decode cX6_wake 25 = .ok (.iload_n 3, 1) := by decide +kernel
theorem dX6_wake_26 : decode cX6_wake 26 = .ok (.iconst (-1), 1) := by decide +kernel
theorem dX6_wake_27 : decode cX6_wake 27 = .ok (.if_icmp .eq 25, 3) := by decide +kernel
theorem dX6_wake_30 : decode cX6_wake 30 = .ok (.aload_n 0, 1) := by decide +kernel
theorem dX6_wake_31 : decode cX6_wake 31 = .ok (.getfield 22, 3) := by decide +kernel
theorem dX6_wake_34 : decode cX6_wake 34 = .ok (.bipush 60, 2) := by decide +kernel
theorem dX6_wake_36 : decode cX6_wake 36 = .ok (.iload 4, 2) := by decide +kernel
theorem dX6_wake_38 : decode cX6_wake 38 = .ok (.iadd, 1) := by decide +kernel
theorem dX6_wake_39 : decode cX6_wake 39 = .ok (.iaload, 1) := by decide +kernel
theorem dX6_wake_40 : decode cX6_wake 40 = .ok (.aload_n 0, 1) := by decide +kernel
theorem dX6_wake_41 : decode cX6_wake 41 = .ok (.getfield 22, 3) := by decide +kernel
theorem dX6_wake_44 : decode cX6_wake 44 = .ok (.bipush 60, 2) := by decide +kernel
theorem dX6_wake_46 : decode cX6_wake 46 = .ok (.iload_n 3, 1) := by decide +kernel
theorem dX6_wake_47 : decode cX6_wake 47 = .ok (.iadd, 1) := by decide +kernel
theorem dX6_wake_48 : decode cX6_wake 48 = .ok (.iaload, 1) := by decide +kernel
theorem dX6_wake_49 : decode cX6_wake 49 = .ok (.if_icmp .ge 6, 3) := by decide +kernel
theorem dX6_wake_52 : decode cX6_wake 52 = .ok (.iload 4, 2) := by decide +kernel
theorem dX6_wake_54 : decode cX6_wake 54 = .ok (.istore_n 3, 1) := by decide +kernel
theorem dX6_wake_55 : decode cX6_wake 55 = .ok (.iinc 4 1, 3) := by decide +kernel
theorem dX6_wake_58 : decode cX6_wake 58 = .ok (.goto (-53), 3) := by decide +kernel
theorem dX6_wake_61 : decode cX6_wake 61 = .ok (.iload_n 3, 1) := by decide +kernel
theorem dX6_wake_62 : decode cX6_wake 62 = .ok (.iconst (-1), 1) := by decide +kernel
theorem dX6_wake_63 : decode cX6_wake 63 = .ok (.if_icmp .eq 8, 3) := by decide +kernel
theorem dX6_wake_66 : decode cX6_wake 66 = .ok (.aload_n 0, 1) := by decide +kernel
theorem dX6_wake_67 : decode cX6_wake 67 = .ok (.iload_n 3, 1) := by decide +kernel
theorem dX6_wake_68 : decode cX6_wake 68 = .ok (.invokevirtual 51, 3) := by decide +kernel
theorem dX6_wake_71 : decode cX6_wake 71 = .ok (.return_, 1) := by decide +kernel
theorem dX6_waits_0 : decode cX6_waits 0 = .ok (.aload_n 0, 1) := by decide +kernel
theorem dX6_waits_1 : decode cX6_waits 1 = .ok (.getfield 22, 3) := by decide +kernel
theorem dX6_waits_4 : decode cX6_waits 4 = .ok (.bipush 12, 2) := by decide +kernel
theorem dX6_waits_6 : decode cX6_waits 6 = .ok (.iload_n 1, 1) := by decide +kernel
theorem dX6_waits_7 : decode cX6_waits 7 = .ok (.iadd, 1) := by decide +kernel
theorem dX6_waits_8 : decode cX6_waits 8 = .ok (.iaload, 1) := by decide +kernel
theorem dX6_waits_9 : decode cX6_waits 9 = .ok (.iload_n 2, 1) := by decide +kernel
theorem dX6_waits_10 : decode cX6_waits 10 = .ok (.if_icmp .ne 30, 3) := by decide +kernel
theorem dX6_waits_13 : decode cX6_waits 13 = .ok (.aload_n 0, 1) := by decide +kernel
theorem dX6_waits_14 : decode cX6_waits 14 = .ok (.getfield 16, 3) := by decide +kernel
theorem dX6_waits_17 : decode cX6_waits 17 = .ok (.bipush 12, 2) := by decide +kernel
theorem dX6_waits_19 : decode cX6_waits 19 = .ok (.iload_n 1, 1) := by decide +kernel
theorem dX6_waits_20 : decode cX6_waits 20 = .ok (.imul, 1) := by decide +kernel
theorem dX6_waits_21 : decode cX6_waits 21 = .ok (.aload_n 0, 1) := by decide +kernel
theorem dX6_waits_22 : decode cX6_waits 22 = .ok (.getfield 22, 3) := by decide +kernel
theorem dX6_waits_25 : decode cX6_waits 25 = .ok (.bipush 20, 2) := by decide +kernel
theorem dX6_waits_27 : decode cX6_waits 27 = .ok (.iload_n 1, 1) := by decide +kernel
theorem dX6_waits_28 : decode cX6_waits 28 = .ok (.iadd, 1) := by decide +kernel
theorem dX6_waits_29 : decode cX6_waits 29 = .ok (.iaload, 1) := by decide +kernel
theorem dX6_waits_30 : decode cX6_waits 30 = .ok (.iadd, 1) := by decide +kernel
theorem dX6_waits_31 : decode cX6_waits 31 = .ok (.iaload, 1) := by decide +kernel
theorem dX6_waits_32 : decode cX6_waits 32 = .ok (.iload_n 3, 1) := by decide +kernel
theorem dX6_waits_33 : decode cX6_waits 33 = .ok (.if_icmp .ne 7, 3) := by decide +kernel
theorem dX6_waits_36 : decode cX6_waits 36 = .ok (.iconst 1, 1) := by decide +kernel
theorem dX6_waits_37 : decode cX6_waits 37 = .ok (.goto 4, 3) := by decide +kernel
theorem dX6_waits_40 : decode cX6_waits 40 = .ok (.iconst 0, 1) := by decide +kernel
theorem dX6_waits_41 : decode cX6_waits 41 = .ok (.ireturn, 1) := by decide +kernel
theorem dX6_send_0 : decode cX6_send 0 = .ok (.aload_n 0, 1) := by decide +kernel
theorem dX6_send_1 : decode cX6_send 1 = .ok (.getfield 22, 3) := by decide +kernel
theorem dX6_send_4 : decode cX6_send 4 = .ok (.sipush 172, 3) := by decide +kernel
theorem dX6_send_7 : decode cX6_send 7 = .ok (.bipush 8, 2) := by decide +kernel
theorem dX6_send_9 : decode cX6_send 9 = .ok (.iload_n 1, 1) := by decide +kernel
theorem dX6_send_10 : decode cX6_send 10 = .ok (.imul, 1) := by decide +kernel
theorem dX6_send_11 : decode cX6_send 11 = .ok (.iadd, 1) := by decide +kernel
theorem dX6_send_12 : decode cX6_send 12 = .ok (.aload_n 0, 1) := by decide +kernel
theorem dX6_send_13 : decode cX6_send 13 = .ok (.getfield 22, 3) := by decide +kernel
theorem dX6_send_16 : decode cX6_send 16 = .ok (.sipush 168, 3) := by decide +kernel
theorem dX6_send_19 : decode cX6_send 19 = .ok (.iload_n 1, 1) := by decide +kernel
theorem dX6_send_20 : decode cX6_send 20 = .ok (.iadd, 1) := by decide +kernel
theorem dX6_send_21 : decode cX6_send 21 = .ok (.iaload, 1) := by decide +kernel
theorem dX6_send_22 : decode cX6_send 22 = .ok (.iadd, 1) := by decide +kernel
theorem dX6_send_23 : decode cX6_send 23 = .ok (.iload_n 2, 1) := by decide +kernel
theorem dX6_send_24 : decode cX6_send 24 = .ok (.iastore, 1) := by decide +kernel
theorem dX6_send_25 : decode cX6_send 25 = .ok (.aload_n 0, 1) := by decide +kernel
theorem dX6_send_26 : decode cX6_send 26 = .ok (.getfield 22, 3) := by decide +kernel
theorem dX6_send_29 : decode cX6_send 29 = .ok (.sipush 168, 3) := by decide +kernel
theorem dX6_send_32 : decode cX6_send 32 = .ok (.iload_n 1, 1) := by decide +kernel
theorem dX6_send_33 : decode cX6_send 33 = .ok (.iadd, 1) := by decide +kernel
theorem dX6_send_34 : decode cX6_send 34 = .ok (.dup2, 1) := by decide +kernel
theorem dX6_send_35 : decode cX6_send 35 = .ok (.iaload, 1) := by decide +kernel
theorem dX6_send_36 : decode cX6_send 36 = .ok (.iconst 1, 1) := by decide +kernel
theorem dX6_send_37 : decode cX6_send 37 = .ok (.iadd, 1) := by decide +kernel
theorem dX6_send_38 : decode cX6_send 38 = .ok (.iastore, 1) := by decide +kernel
theorem dX6_send_39 : decode cX6_send 39 = .ok (.aload_n 0, 1) := by decide +kernel
theorem dX6_send_40 : decode cX6_send 40 = .ok (.iconst 2, 1) := by decide +kernel
theorem dX6_send_41 : decode cX6_send 41 = .ok (.iload_n 1, 1) := by decide +kernel
theorem dX6_send_42 : decode cX6_send 42 = .ok (.invokevirtual 55, 3) := by decide +kernel
theorem dX6_send_45 : decode cX6_send 45 = .ok (.return_, 1) := by decide +kernel
theorem dX6_take_0 : decode cX6_take 0 = .ok (.sipush 172, 3) := by decide +kernel
theorem dX6_take_3 : decode cX6_take 3 = .ok (.bipush 8, 2) := by decide +kernel
theorem dX6_take_5 : decode cX6_take 5 = .ok (.iload_n 1, 1) := by decide +kernel
theorem dX6_take_6 : decode cX6_take 6 = .ok (.imul, 1) := by decide +kernel
theorem dX6_take_7 : decode cX6_take 7 = .ok (.iadd, 1) := by decide +kernel
theorem dX6_take_8 : decode cX6_take 8 = .ok (.istore_n 2, 1) := by decide +kernel
theorem dX6_take_9 : decode cX6_take 9 = .ok (.aload_n 0, 1) := by decide +kernel
theorem dX6_take_10 : decode cX6_take 10 = .ok (.getfield 22, 3) := by decide +kernel
theorem dX6_take_13 : decode cX6_take 13 = .ok (.iload_n 2, 1) := by decide +kernel
theorem dX6_take_14 : decode cX6_take 14 = .ok (.iaload, 1) := by decide +kernel
theorem dX6_take_15 : decode cX6_take 15 = .ok (.istore_n 3, 1) := by decide +kernel
theorem dX6_take_16 : decode cX6_take 16 = .ok (.aload_n 0, 1) := by decide +kernel
theorem dX6_take_17 : decode cX6_take 17 = .ok (.getfield 22, 3) := by decide +kernel
theorem dX6_take_20 : decode cX6_take 20 = .ok (.sipush 168, 3) := by decide +kernel
theorem dX6_take_23 : decode cX6_take 23 = .ok (.iload_n 1, 1) := by decide +kernel
theorem dX6_take_24 : decode cX6_take 24 = .ok (.iadd, 1) := by decide +kernel
theorem dX6_take_25 : decode cX6_take 25 = .ok (.dup2, 1) := by decide +kernel
theorem dX6_take_26 : decode cX6_take 26 = .ok (.iaload, 1) := by decide +kernel
theorem dX6_take_27 : decode cX6_take 27 = .ok (.iconst 1, 1) := by decide +kernel
theorem dX6_take_28 : decode cX6_take 28 = .ok (.isub, 1) := by decide +kernel
theorem dX6_take_29 : decode cX6_take 29 = .ok (.iastore, 1) := by decide +kernel
theorem dX6_take_30 : decode cX6_take 30 = .ok (.aload_n 0, 1) := by decide +kernel
theorem dX6_take_31 : decode cX6_take 31 = .ok (.getfield 22, 3) := by decide +kernel
theorem dX6_take_34 : decode cX6_take 34 = .ok (.iload_n 2, 1) := by decide +kernel
theorem dX6_take_35 : decode cX6_take 35 = .ok (.iconst 1, 1) := by decide +kernel
theorem dX6_take_36 : decode cX6_take 36 = .ok (.iadd, 1) := by decide +kernel
theorem dX6_take_37 : decode cX6_take 37 = .ok (.aload_n 0, 1) := by decide +kernel
theorem dX6_take_38 : decode cX6_take 38 = .ok (.getfield 22, 3) := by decide +kernel
theorem dX6_take_41 : decode cX6_take 41 = .ok (.iload_n 2, 1) := by decide +kernel
theorem dX6_take_42 : decode cX6_take 42 = .ok (.aload_n 0, 1) := by decide +kernel
theorem dX6_take_43 : decode cX6_take 43 = .ok (.getfield 22, 3) := by decide +kernel
theorem dX6_take_46 : decode cX6_take 46 = .ok (.sipush 168, 3) := by decide +kernel
theorem dX6_take_49 : decode cX6_take 49 = .ok (.iload_n 1, 1) := by decide +kernel
theorem dX6_take_50 : decode cX6_take 50 = .ok (.iadd, 1) := by decide +kernel
theorem dX6_take_51 : decode cX6_take 51 = .ok (.iaload, 1) := by decide +kernel
theorem dX6_take_52 : decode cX6_take 52 = .ok (.invokestatic 42, 3) := by decide +kernel
theorem dX6_take_55 : decode cX6_take 55 = .ok (.aload_n 0, 1) := by decide +kernel
theorem dX6_take_56 : decode cX6_take 56 = .ok (.iconst 1, 1) := by decide +kernel
theorem dX6_take_57 : decode cX6_take 57 = .ok (.iload_n 1, 1) := by decide +kernel
theorem dX6_take_58 : decode cX6_take 58 = .ok (.invokevirtual 55, 3) := by decide +kernel
theorem dX6_take_61 : decode cX6_take 61 = .ok (.iload_n 3, 1) := by decide +kernel
theorem dX6_take_62 : decode cX6_take 62 = .ok (.ireturn, 1) := by decide +kernel
theorem dX6_waitIn_0 : decode cX6_waitIn 0 = .ok (.aload_n 0, 1) := by decide +kernel
theorem dX6_waitIn_1 : decode cX6_waitIn 1 = .ok (.getfield 22, 3) := by decide +kernel
theorem dX6_waitIn_4 : decode cX6_waitIn 4 = .ok (.bipush 12, 2) := by decide +kernel
theorem dX6_waitIn_6 : decode cX6_waitIn 6 = .ok (.iload_n 1, 1) := by decide +kernel
theorem dX6_waitIn_7 : decode cX6_waitIn 7 = .ok (.iadd, 1) := by decide +kernel
theorem dX6_waitIn_8 : decode cX6_waitIn 8 = .ok (.iload_n 2, 1) := by decide +kernel
theorem dX6_waitIn_9 : decode cX6_waitIn 9 = .ok (.iastore, 1) := by decide +kernel
theorem dX6_waitIn_10 : decode cX6_waitIn 10 = .ok (.aload_n 0, 1) := by decide +kernel
theorem dX6_waitIn_11 : decode cX6_waitIn 11 = .ok (.getfield 22, 3) := by decide +kernel
theorem dX6_waitIn_14 : decode cX6_waitIn 14 = .ok (.bipush 60, 2) := by decide +kernel
theorem dX6_waitIn_16 : decode cX6_waitIn 16 = .ok (.iload_n 1, 1) := by decide +kernel
theorem dX6_waitIn_17 : decode cX6_waitIn 17 = .ok (.iadd, 1) := by decide +kernel
theorem dX6_waitIn_18 : decode cX6_waitIn 18 = .ok (.aload_n 0, 1) := by decide +kernel
theorem dX6_waitIn_19 : decode cX6_waitIn 19 = .ok (.getfield 22, 3) := by decide +kernel
theorem dX6_waitIn_22 : decode cX6_waitIn 22 = .ok (.iconst 2, 1) := by decide +kernel
theorem dX6_waitIn_23 : decode cX6_waitIn 23 = .ok (.iaload, 1) := by decide +kernel
theorem dX6_waitIn_24 : decode cX6_waitIn 24 = .ok (.iastore, 1) := by decide +kernel
theorem dX6_waitIn_25 : decode cX6_waitIn 25 = .ok (.aload_n 0, 1) := by decide +kernel
theorem dX6_waitIn_26 : decode cX6_waitIn 26 = .ok (.getfield 22, 3) := by decide +kernel
theorem dX6_waitIn_29 : decode cX6_waitIn 29 = .ok (.iconst 2, 1) := by decide +kernel
theorem dX6_waitIn_30 : decode cX6_waitIn 30 = .ok (.dup2, 1) := by decide +kernel
theorem dX6_waitIn_31 : decode cX6_waitIn 31 = .ok (.iaload, 1) := by decide +kernel
theorem dX6_waitIn_32 : decode cX6_waitIn 32 = .ok (.iconst 1, 1) := by decide +kernel
theorem dX6_waitIn_33 : decode cX6_waitIn 33 = .ok (.iadd, 1) := by decide +kernel
theorem dX6_waitIn_34 : decode cX6_waitIn 34 = .ok (.iastore, 1) := by decide +kernel
theorem dX6_waitIn_35 : decode cX6_waitIn 35 = .ok (.return_, 1) := by decide +kernel
theorem dX6_isDone_0 : decode cX6_isDone 0 = .ok (.bipush 12, 2) := by decide +kernel
theorem dX6_isDone_2 : decode cX6_isDone 2 = .ok (.iload_n 1, 1) := by decide +kernel
theorem dX6_isDone_3 : decode cX6_isDone 3 = .ok (.imul, 1) := by decide +kernel
theorem dX6_isDone_4 : decode cX6_isDone 4 = .ok (.aload_n 0, 1) := by decide +kernel
theorem dX6_isDone_5 : decode cX6_isDone 5 = .ok (.getfield 22, 3) := by decide +kernel
theorem dX6_isDone_8 : decode cX6_isDone 8 = .ok (.bipush 20, 2) := by decide +kernel
theorem dX6_isDone_10 : decode cX6_isDone 10 = .ok (.iload_n 1, 1) := by decide +kernel
theorem dX6_isDone_11 : decode cX6_isDone 11 = .ok (.iadd, 1) := by decide +kernel
theorem dX6_isDone_12 : decode cX6_isDone 12 = .ok (.iaload, 1) := by decide +kernel
theorem dX6_isDone_13 : decode cX6_isDone 13 = .ok (.iadd, 1) := by decide +kernel
theorem dX6_isDone_14 : decode cX6_isDone 14 = .ok (.istore_n 2, 1) := by decide +kernel
theorem dX6_isDone_15 : decode cX6_isDone 15 = .ok (.aload_n 0, 1) := by decide +kernel
theorem dX6_isDone_16 : decode cX6_isDone 16 = .ok (.getfield 16, 3) := by decide +kernel
theorem dX6_isDone_19 : decode cX6_isDone 19 = .ok (.iload_n 2, 1) := by decide +kernel
theorem dX6_isDone_20 : decode cX6_isDone 20 = .ok (.iaload, 1) := by decide +kernel
theorem dX6_isDone_21 : decode cX6_isDone 21 = .ok (.istore_n 3, 1) := by decide +kernel
theorem dX6_isDone_22 : decode cX6_isDone 22 = .ok (.aload_n 0, 1) := by decide +kernel
theorem dX6_isDone_23 : decode cX6_isDone 23 = .ok (.getfield 13, 3) := by decide +kernel
theorem dX6_isDone_26 : decode cX6_isDone 26 = .ok (.iload_n 2, 1) := by decide +kernel
theorem dX6_isDone_27 : decode cX6_isDone 27 = .ok (.iaload, 1) := by decide +kernel
theorem dX6_isDone_28 : decode cX6_isDone 28 = .ok (.tableswitch 282 0 6 #[44, 122, 175, 282, 205, 226, 44], 44) := by decide +kernel
theorem dX6_isDone_72 : decode cX6_isDone 72 = .ok (.aload_n 0, 1) := by decide +kernel
theorem dX6_isDone_73 : decode cX6_isDone 73 = .ok (.getfield 22, 3) := by decide +kernel
theorem dX6_isDone_76 : decode cX6_isDone 76 = .ok (.sipush 168, 3) := by decide +kernel
theorem dX6_isDone_79 : decode cX6_isDone 79 = .ok (.iload_n 3, 1) := by decide +kernel
theorem dX6_isDone_80 : decode cX6_isDone 80 = .ok (.iadd, 1) := by decide +kernel
theorem dX6_isDone_81 : decode cX6_isDone 81 = .ok (.iaload, 1) := by decide +kernel
theorem dX6_isDone_82 : decode cX6_isDone 82 = .ok (.aload_n 0, 1) := by decide +kernel
theorem dX6_isDone_83 : decode cX6_isDone 83 = .ok (.getfield 22, 3) := by decide +kernel
theorem dX6_isDone_86 : decode cX6_isDone 86 = .ok (.sipush 164, 3) := by decide +kernel
theorem dX6_isDone_89 : decode cX6_isDone 89 = .ok (.iload_n 3, 1) := by decide +kernel
theorem dX6_isDone_90 : decode cX6_isDone 90 = .ok (.iadd, 1) := by decide +kernel
theorem dX6_isDone_91 : decode cX6_isDone 91 = .ok (.iaload, 1) := by decide +kernel
theorem dX6_isDone_92 : decode cX6_isDone 92 = .ok (.if_icmp .lt 11, 3) := by decide +kernel
theorem dX6_isDone_95 : decode cX6_isDone 95 = .ok (.aload_n 0, 1) := by decide +kernel
theorem dX6_isDone_96 : decode cX6_isDone 96 = .ok (.iload_n 1, 1) := by decide +kernel
theorem dX6_isDone_97 : decode cX6_isDone 97 = .ok (.iconst 1, 1) := by decide +kernel
theorem dX6_isDone_98 : decode cX6_isDone 98 = .ok (.invokevirtual 59, 3) := by decide +kernel
theorem dX6_isDone_101 : decode cX6_isDone 101 = .ok (.iconst 0, 1) := by decide +kernel
theorem dX6_isDone_102 : decode cX6_isDone 102 = .ok (.ireturn, 1) := by decide +kernel
theorem dX6_isDone_103 : decode cX6_isDone 103 = .ok (.aload_n 0, 1) := by decide +kernel
theorem dX6_isDone_104 : decode cX6_isDone 104 = .ok (.getfield 22, 3) := by decide +kernel
theorem dX6_isDone_107 : decode cX6_isDone 107 = .ok (.bipush 20, 2) := by decide +kernel
theorem dX6_isDone_109 : decode cX6_isDone 109 = .ok (.iload_n 1, 1) := by decide +kernel
theorem dX6_isDone_110 : decode cX6_isDone 110 = .ok (.iadd, 1) := by decide +kernel
theorem dX6_isDone_111 : decode cX6_isDone 111 = .ok (.dup2, 1) := by decide +kernel
theorem dX6_isDone_112 : decode cX6_isDone 112 = .ok (.iaload, 1) := by decide +kernel
theorem dX6_isDone_113 : decode cX6_isDone 113 = .ok (.iconst 1, 1) := by decide +kernel
theorem dX6_isDone_114 : decode cX6_isDone 114 = .ok (.iadd, 1) := by decide +kernel
theorem dX6_isDone_115 : decode cX6_isDone 115 = .ok (.iastore, 1) := by decide +kernel
theorem dX6_isDone_116 : decode cX6_isDone 116 = .ok (.aload_n 0, 1) := by decide +kernel
theorem dX6_isDone_117 : decode cX6_isDone 117 = .ok (.iload_n 3, 1) := by decide +kernel
theorem dX6_isDone_118 : decode cX6_isDone 118 = .ok (.aload_n 0, 1) := by decide +kernel
theorem dX6_isDone_119 : decode cX6_isDone 119 = .ok (.getfield 13, 3) := by decide +kernel
theorem dX6_isDone_122 : decode cX6_isDone 122 = .ok (.iload_n 2, 1) := by decide +kernel
theorem dX6_isDone_123 : decode cX6_isDone 123 = .ok (.iaload, 1) := by decide +kernel
theorem dX6_isDone_124 : decode cX6_isDone 124 = .ok (.ifCond .ne 12, 3) := by decide +kernel
theorem dX6_isDone_127 : decode cX6_isDone 127 = .ok (.aload_n 0, 1) := by decide +kernel
theorem dX6_isDone_128 : decode cX6_isDone 128 = .ok (.getfield 19, 3) := by decide +kernel
theorem dX6_isDone_131 : decode cX6_isDone 131 = .ok (.iload_n 2, 1) := by decide +kernel
theorem dX6_isDone_132 : decode cX6_isDone 132 = .ok (.iaload, 1) := by decide +kernel
theorem dX6_isDone_133 : decode cX6_isDone 133 = .ok (.goto 12, 3) := by decide +kernel
theorem dX6_isDone_136 : decode cX6_isDone 136 = .ok (.aload_n 0, 1) := by decide +kernel
theorem dX6_isDone_137 : decode cX6_isDone 137 = .ok (.getfield 22, 3) := by decide +kernel
theorem dX6_isDone_140 : decode cX6_isDone 140 = .ok (.bipush 28, 2) := by decide +kernel
theorem dX6_isDone_142 : decode cX6_isDone 142 = .ok (.iload_n 1, 1) := by decide +kernel
theorem dX6_isDone_143 : decode cX6_isDone 143 = .ok (.iadd, 1) := by decide +kernel
theorem dX6_isDone_144 : decode cX6_isDone 144 = .ok (.iaload, 1) := by decide +kernel
theorem dX6_isDone_145 : decode cX6_isDone 145 = .ok (.invokevirtual 62, 3) := by decide +kernel
theorem dX6_isDone_148 : decode cX6_isDone 148 = .ok (.iconst 1, 1) := by decide +kernel
theorem dX6_isDone_149 : decode cX6_isDone 149 = .ok (.ireturn, 1) := by decide +kernel
theorem dX6_isDone_150 : decode cX6_isDone 150 = .ok (.aload_n 0, 1) := by decide +kernel
theorem dX6_isDone_151 : decode cX6_isDone 151 = .ok (.getfield 22, 3) := by decide +kernel
theorem dX6_isDone_154 : decode cX6_isDone 154 = .ok (.sipush 168, 3) := by decide +kernel
theorem dX6_isDone_157 : decode cX6_isDone 157 = .ok (.iload_n 3, 1) := by decide +kernel
theorem dX6_isDone_158 : decode cX6_isDone 158 = .ok (.iadd, 1) := by decide +kernel
theorem dX6_isDone_159 : decode cX6_isDone 159 = .ok (.iaload, 1) := by decide +kernel
theorem dX6_isDone_160 : decode cX6_isDone 160 = .ok (.ifCond .ne 11, 3) := by decide +kernel
theorem dX6_isDone_163 : decode cX6_isDone 163 = .ok (.aload_n 0, 1) := by decide +kernel
theorem dX6_isDone_164 : decode cX6_isDone 164 = .ok (.iload_n 1, 1) := by decide +kernel
theorem dX6_isDone_165 : decode cX6_isDone 165 = .ok (.iconst 2, 1) := by decide +kernel
theorem dX6_isDone_166 : decode cX6_isDone 166 = .ok (.invokevirtual 59, 3) := by decide +kernel
theorem dX6_isDone_169 : decode cX6_isDone 169 = .ok (.iconst 0, 1) := by decide +kernel
theorem dX6_isDone_170 : decode cX6_isDone 170 = .ok (.ireturn, 1) := by decide +kernel
theorem dX6_isDone_171 : decode cX6_isDone 171 = .ok (.aload_n 0, 1) := by decide +kernel
theorem dX6_isDone_172 : decode cX6_isDone 172 = .ok (.getfield 22, 3) := by decide +kernel
theorem dX6_isDone_175 : decode cX6_isDone 175 = .ok (.bipush 20, 2) := by decide +kernel
theorem dX6_isDone_177 : decode cX6_isDone 177 = .ok (.iload_n 1, 1) := by decide +kernel
theorem dX6_isDone_178 : decode cX6_isDone 178 = .ok (.iadd, 1) := by decide +kernel
theorem dX6_isDone_179 : decode cX6_isDone 179 = .ok (.dup2, 1) := by decide +kernel
theorem dX6_isDone_180 : decode cX6_isDone 180 = .ok (.iaload, 1) := by decide +kernel
theorem dX6_isDone_181 : decode cX6_isDone 181 = .ok (.iconst 1, 1) := by decide +kernel
theorem dX6_isDone_182 : decode cX6_isDone 182 = .ok (.iadd, 1) := by decide +kernel
theorem dX6_isDone_183 : decode cX6_isDone 183 = .ok (.iastore, 1) := by decide +kernel
theorem dX6_isDone_184 : decode cX6_isDone 184 = .ok (.aload_n 0, 1) := by decide +kernel
theorem dX6_isDone_185 : decode cX6_isDone 185 = .ok (.getfield 22, 3) := by decide +kernel
theorem dX6_isDone_188 : decode cX6_isDone 188 = .ok (.bipush 28, 2) := by decide +kernel
theorem dX6_isDone_190 : decode cX6_isDone 190 = .ok (.iload_n 1, 1) := by decide +kernel
theorem dX6_isDone_191 : decode cX6_isDone 191 = .ok (.iadd, 1) := by decide +kernel
theorem dX6_isDone_192 : decode cX6_isDone 192 = .ok (.dup2, 1) := by decide +kernel
theorem dX6_isDone_193 : decode cX6_isDone 193 = .ok (.iaload, 1) := by decide +kernel
theorem dX6_isDone_194 : decode cX6_isDone 194 = .ok (.aload_n 0, 1) := by decide +kernel
theorem dX6_isDone_195 : decode cX6_isDone 195 = .ok (.iload_n 3, 1) := by decide +kernel
theorem dX6_isDone_196 : decode cX6_isDone 196 = .ok (.invokevirtual 65, 3) := by decide +kernel
theorem dX6_isDone_199 : decode cX6_isDone 199 = .ok (.iadd, 1) := by decide +kernel
theorem dX6_isDone_200 : decode cX6_isDone 200 = .ok (.iastore, 1) := by decide +kernel
theorem dX6_isDone_201 : decode cX6_isDone 201 = .ok (.iconst 1, 1) := by decide +kernel
theorem dX6_isDone_202 : decode cX6_isDone 202 = .ok (.ireturn, 1) := by decide +kernel
theorem dX6_isDone_203 : decode cX6_isDone 203 = .ok (.aload_n 0, 1) := by decide +kernel
theorem dX6_isDone_204 : decode cX6_isDone 204 = .ok (.getfield 22, 3) := by decide +kernel
theorem dX6_isDone_207 : decode cX6_isDone 207 = .ok (.bipush 12, 2) := by decide +kernel
theorem dX6_isDone_209 : decode cX6_isDone 209 = .ok (.iload_n 1, 1) := by decide +kernel
theorem dX6_isDone_210 : decode cX6_isDone 210 = .ok (.iadd, 1) := by decide +kernel
theorem dX6_isDone_211 : decode cX6_isDone 211 = .ok (.iconst 3, 1) := by decide +kernel
theorem dX6_isDone_212 : decode cX6_isDone 212 = .ok (.iastore, 1) := by decide +kernel
theorem dX6_isDone_213 : decode cX6_isDone 213 = .ok (.aload_n 0, 1) := by decide +kernel
theorem dX6_isDone_214 : decode cX6_isDone 214 = .ok (.getfield 22, 3) := by decide +kernel
theorem dX6_isDone_217 : decode cX6_isDone 217 = .ok (.bipush 52, 2) := by decide +kernel
theorem dX6_isDone_219 : decode cX6_isDone 219 = .ok (.iload_n 1, 1) := by decide +kernel
theorem dX6_isDone_220 : decode cX6_isDone 220 = .ok (.iadd, 1) := by decide +kernel
theorem dX6_isDone_221 : decode cX6_isDone 221 = .ok (.aload_n 0, 1) := by decide +kernel
theorem dX6_isDone_222 : decode cX6_isDone 222 = .ok (.getfield 22, 3) := by decide +kernel
theorem dX6_isDone_225 : decode cX6_isDone 225 = .ok (.iconst 0, 1) := by decide +kernel
theorem dX6_isDone_226 : decode cX6_isDone 226 = .ok (.iaload, 1) := by decide +kernel
theorem dX6_isDone_227 : decode cX6_isDone 227 = .ok (.iload_n 3, 1) := by decide +kernel
theorem dX6_isDone_228 : decode cX6_isDone 228 = .ok (.iadd, 1) := by decide +kernel
theorem dX6_isDone_229 : decode cX6_isDone 229 = .ok (.iastore, 1) := by decide +kernel
theorem dX6_isDone_230 : decode cX6_isDone 230 = .ok (.goto 80, 3) := by decide +kernel
theorem dX6_isDone_233 : decode cX6_isDone 233 = .ok (.aload_n 0, 1) := by decide +kernel
theorem dX6_isDone_234 : decode cX6_isDone 234 = .ok (.getfield 22, 3) := by decide +kernel
theorem dX6_isDone_237 : decode cX6_isDone 237 = .ok (.bipush 12, 2) := by decide +kernel
theorem dX6_isDone_239 : decode cX6_isDone 239 = .ok (.iload_n 3, 1) := by decide +kernel
theorem dX6_isDone_240 : decode cX6_isDone 240 = .ok (.iadd, 1) := by decide +kernel
theorem dX6_isDone_241 : decode cX6_isDone 241 = .ok (.iaload, 1) := by decide +kernel
theorem dX6_isDone_242 : decode cX6_isDone 242 = .ok (.iconst 5, 1) := by decide +kernel
theorem dX6_isDone_243 : decode cX6_isDone 243 = .ok (.if_icmp .eq 67, 3) := by decide +kernel
theorem dX6_isDone_246 : decode cX6_isDone 246 = .ok (.aload_n 0, 1) := by decide +kernel
theorem dX6_isDone_247 : decode cX6_isDone 247 = .ok (.iload_n 1, 1) := by decide +kernel
theorem dX6_isDone_248 : decode cX6_isDone 248 = .ok (.iconst 4, 1) := by decide +kernel
theorem dX6_isDone_249 : decode cX6_isDone 249 = .ok (.invokevirtual 59, 3) := by decide +kernel
theorem dX6_isDone_252 : decode cX6_isDone 252 = .ok (.iconst 0, 1) := by decide +kernel
theorem dX6_isDone_253 : decode cX6_isDone 253 = .ok (.ireturn, 1) := by decide +kernel
theorem dX6_isDone_254 : decode cX6_isDone 254 = .ok (.aload_n 0, 1) := by decide +kernel
theorem dX6_isDone_255 : decode cX6_isDone 255 = .ok (.getfield 22, 3) := by decide +kernel
theorem dX6_isDone_258 : decode cX6_isDone 258 = .ok (.bipush 68, 2) := by decide +kernel
theorem dX6_isDone_260 : decode cX6_isDone 260 = .ok (.iload_n 2, 1) := by decide +kernel
theorem dX6_isDone_261 : decode cX6_isDone 261 = .ok (.iadd, 1) := by decide +kernel
theorem dX6_isDone_262 : decode cX6_isDone 262 = .ok (.iaload, 1) := by decide +kernel
theorem dX6_isDone_263 : decode cX6_isDone 263 = .ok (.aload_n 0, 1) := by decide +kernel
theorem dX6_isDone_264 : decode cX6_isDone 264 = .ok (.getfield 19, 3) := by decide +kernel
theorem dX6_isDone_267 : decode cX6_isDone 267 = .ok (.iload_n 2, 1) := by decide +kernel
theorem dX6_isDone_268 : decode cX6_isDone 268 = .ok (.iaload, 1) := by decide +kernel
theorem dX6_isDone_269 : decode cX6_isDone 269 = .ok (.if_icmp .ge 28, 3) := by decide +kernel
theorem dX6_isDone_272 : decode cX6_isDone 272 = .ok (.aload_n 0, 1) := by decide +kernel
theorem dX6_isDone_273 : decode cX6_isDone 273 = .ok (.getfield 22, 3) := by decide +kernel
theorem dX6_isDone_276 : decode cX6_isDone 276 = .ok (.bipush 68, 2) := by decide +kernel
theorem dX6_isDone_278 : decode cX6_isDone 278 = .ok (.iload_n 2, 1) := by decide +kernel
theorem dX6_isDone_279 : decode cX6_isDone 279 = .ok (.iadd, 1) := by decide +kernel
theorem dX6_isDone_280 : decode cX6_isDone 280 = .ok (.dup2, 1) := by decide +kernel
theorem dX6_isDone_281 : decode cX6_isDone 281 = .ok (.iaload, 1) := by decide +kernel
theorem dX6_isDone_282 : decode cX6_isDone 282 = .ok (.iconst 1, 1) := by decide +kernel
theorem dX6_isDone_283 : decode cX6_isDone 283 = .ok (.iadd, 1) := by decide +kernel
theorem dX6_isDone_284 : decode cX6_isDone 284 = .ok (.iastore, 1) := by decide +kernel
theorem dX6_isDone_285 : decode cX6_isDone 285 = .ok (.aload_n 0, 1) := by decide +kernel
theorem dX6_isDone_286 : decode cX6_isDone 286 = .ok (.getfield 22, 3) := by decide +kernel
theorem dX6_isDone_289 : decode cX6_isDone 289 = .ok (.bipush 20, 2) := by decide +kernel
theorem dX6_isDone_291 : decode cX6_isDone 291 = .ok (.iload_n 1, 1) := by decide +kernel
theorem dX6_isDone_292 : decode cX6_isDone 292 = .ok (.iadd, 1) := by decide +kernel
theorem dX6_isDone_293 : decode cX6_isDone 293 = .ok (.iload_n 3, 1) := by decide +kernel
theorem dX6_isDone_294 : decode cX6_isDone 294 = .ok (.iastore, 1) := by decide +kernel
theorem dX6_isDone_295 : decode cX6_isDone 295 = .ok (.iconst 1, 1) := by decide +kernel
theorem dX6_isDone_296 : decode cX6_isDone 296 = .ok (.ireturn, 1) := by decide +kernel
theorem dX6_isDone_297 : decode cX6_isDone 297 = .ok (.aload_n 0, 1) := by decide +kernel
theorem dX6_isDone_298 : decode cX6_isDone 298 = .ok (.getfield 22, 3) := by decide +kernel
theorem dX6_isDone_301 : decode cX6_isDone 301 = .ok (.bipush 68, 2) := by decide +kernel
theorem dX6_isDone_303 : decode cX6_isDone 303 = .ok (.iload_n 2, 1) := by decide +kernel
theorem dX6_isDone_304 : decode cX6_isDone 304 = .ok (.iadd, 1) := by decide +kernel
theorem dX6_isDone_305 : decode cX6_isDone 305 = .ok (.iconst 0, 1) := by decide +kernel
theorem dX6_isDone_306 : decode cX6_isDone 306 = .ok (.iastore, 1) := by decide +kernel
theorem dX6_isDone_307 : decode cX6_isDone 307 = .ok (.goto 3, 3) := by decide +kernel
theorem dX6_isDone_310 : decode cX6_isDone 310 = .ok (.aload_n 0, 1) := by decide +kernel
theorem dX6_isDone_311 : decode cX6_isDone 311 = .ok (.getfield 22, 3) := by decide +kernel
theorem dX6_isDone_314 : decode cX6_isDone 314 = .ok (.bipush 20, 2) := by decide +kernel
theorem dX6_isDone_316 : decode cX6_isDone 316 = .ok (.iload_n 1, 1) := by decide +kernel
theorem dX6_isDone_317 : decode cX6_isDone 317 = .ok (.iadd, 1) := by decide +kernel
theorem dX6_isDone_318 : decode cX6_isDone 318 = .ok (.dup2, 1) := by decide +kernel
theorem dX6_isDone_319 : decode cX6_isDone 319 = .ok (.iaload, 1) := by decide +kernel
theorem dX6_isDone_320 : decode cX6_isDone 320 = .ok (.iconst 1, 1) := by decide +kernel
theorem dX6_isDone_321 : decode cX6_isDone 321 = .ok (.iadd, 1) := by decide +kernel
theorem dX6_isDone_322 : decode cX6_isDone 322 = .ok (.iastore, 1) := by decide +kernel
theorem dX6_isDone_323 : decode cX6_isDone 323 = .ok (.iconst 1, 1) := by decide +kernel
theorem dX6_isDone_324 : decode cX6_isDone 324 = .ok (.ireturn, 1) := by decide +kernel
theorem dX6_done_0 : decode cX6_done 0 = .ok (.aload_n 0, 1) := by decide +kernel
theorem dX6_done_1 : decode cX6_done 1 = .ok (.getfield 22, 3) := by decide +kernel
theorem dX6_done_4 : decode cX6_done 4 = .ok (.bipush 12, 2) := by decide +kernel
theorem dX6_done_6 : decode cX6_done 6 = .ok (.iload_n 1, 1) := by decide +kernel
theorem dX6_done_7 : decode cX6_done 7 = .ok (.iadd, 1) := by decide +kernel
theorem dX6_done_8 : decode cX6_done 8 = .ok (.iconst 5, 1) := by decide +kernel
theorem dX6_done_9 : decode cX6_done 9 = .ok (.iastore, 1) := by decide +kernel
theorem dX6_done_10 : decode cX6_done 10 = .ok (.iconst 0, 1) := by decide +kernel
theorem dX6_done_11 : decode cX6_done 11 = .ok (.istore_n 2, 1) := by decide +kernel
theorem dX6_done_12 : decode cX6_done 12 = .ok (.iload_n 2, 1) := by decide +kernel
theorem dX6_done_13 : decode cX6_done 13 = .ok (.aload_n 0, 1) := by decide +kernel
theorem dX6_done_14 : decode cX6_done 14 = .ok (.getfield 39, 3) := by decide +kernel
theorem dX6_done_17 : decode cX6_done 17 = .ok (.if_icmp .ge 24, 3) := by decide +kernel
theorem dX6_done_20 : decode cX6_done 20 = .ok (.aload_n 0, 1) := by decide +kernel
theorem dX6_done_21 : decode cX6_done 21 = .ok (.iload_n 2, 1) := by decide +kernel
theorem dX6_done_22 : decode cX6_done 22 = .ok (.iconst 4, 1) := by decide +kernel
theorem dX6_done_23 : decode cX6_done 23 = .ok (.iload_n 1, 1) := by decide +kernel
theorem dX6_done_24 : decode cX6_done 24 = .ok (.invokevirtual 48, 3) := by decide +kernel
theorem dX6_done_27 : decode cX6_done 27 = .ok (.ifCond .eq 8, 3) := by decide +kernel
theorem dX6_done_30 : decode cX6_done 30 = .ok (.aload_n 0, 1) := by decide +kernel
theorem dX6_done_31 : decode cX6_done 31 = .ok (.iload_n 2, 1) := by decide +kernel
theorem dX6_done_32 : decode cX6_done 32 = .ok (.invokevirtual 51, 3) := by decide +kernel
theorem dX6_done_35 : decode cX6_done 35 = .ok (.iinc 2 1, 3) := by decide +kernel
theorem dX6_done_38 : decode cX6_done 38 = .ok (.goto (-26), 3) := by decide +kernel
theorem dX6_done_41 : decode cX6_done 41 = .ok (.return_, 1) := by decide +kernel
theorem dX6_go_0 : decode cX6_go 0 = .ok (.aload_n 0, 1) := by decide +kernel
theorem dX6_go_1 : decode cX6_go 1 = .ok (.getfield 22, 3) := by decide +kernel
theorem dX6_go_4 : decode cX6_go 4 = .ok (.bipush 44, 2) := by decide +kernel
theorem dX6_go_6 : decode cX6_go 6 = .ok (.iload_n 1, 1) := by decide +kernel
theorem dX6_go_7 : decode cX6_go 7 = .ok (.iadd, 1) := by decide +kernel
theorem dX6_go_8 : decode cX6_go 8 = .ok (.dup2, 1) := by decide +kernel
theorem dX6_go_9 : decode cX6_go 9 = .ok (.iaload, 1) := by decide +kernel
theorem dX6_go_10 : decode cX6_go 10 = .ok (.iconst 1, 1) := by decide +kernel
theorem dX6_go_11 : decode cX6_go 11 = .ok (.iadd, 1) := by decide +kernel
theorem dX6_go_12 : decode cX6_go 12 = .ok (.iastore, 1) := by decide +kernel
theorem dX6_go_13 : decode cX6_go 13 = .ok (.iconst 0, 1) := by decide +kernel
theorem dX6_go_14 : decode cX6_go 14 = .ok (.istore_n 2, 1) := by decide +kernel
theorem dX6_go_15 : decode cX6_go 15 = .ok (.iconst 1, 1) := by decide +kernel
theorem dX6_go_16 : decode cX6_go 16 = .ok (.istore_n 3, 1) := by decide +kernel
theorem dX6_go_17 : decode cX6_go 17 = .ok (.iload_n 3, 1) := by decide +kernel
theorem dX6_go_18 : decode cX6_go 18 = .ok (.ifCond .eq 86, 3) := by decide +kernel
theorem dX6_go_21 : decode cX6_go 21 = .ok (.iload_n 2, 1) := by decide +kernel
theorem dX6_go_22 : decode cX6_go 22 = .ok (.iconst 4, 1) := by decide +kernel
theorem dX6_go_23 : decode cX6_go 23 = .ok (.if_icmp .ge 81, 3) := by decide +kernel
theorem dX6_go_26 : decode cX6_go 26 = .ok (.aload_n 0, 1) := by decide +kernel
theorem dX6_go_27 : decode cX6_go 27 = .ok (.getfield 22, 3) := by decide +kernel
theorem dX6_go_30 : decode cX6_go 30 = .ok (.bipush 12, 2) := by decide +kernel
theorem dX6_go_32 : decode cX6_go 32 = .ok (.iload_n 1, 1) := by decide +kernel
theorem dX6_go_33 : decode cX6_go 33 = .ok (.iadd, 1) := by decide +kernel
theorem dX6_go_34 : decode cX6_go 34 = .ok (.iaload, 1) := by decide +kernel
theorem dX6_go_35 : decode cX6_go 35 = .ok (.ifCond .ne 69, 3) := by decide +kernel
theorem dX6_go_38 : decode cX6_go 38 = .ok (.aload_n 0, 1) := by decide +kernel
theorem dX6_go_39 : decode cX6_go 39 = .ok (.getfield 22, 3) := by decide +kernel
theorem dX6_go_42 : decode cX6_go 42 = .ok (.bipush 20, 2) := by decide +kernel
theorem dX6_go_44 : decode cX6_go 44 = .ok (.iload_n 1, 1) := by decide +kernel
theorem dX6_go_45 : decode cX6_go 45 = .ok (.iadd, 1) := by decide +kernel
theorem dX6_go_46 : decode cX6_go 46 = .ok (.iaload, 1) := by decide +kernel
theorem dX6_go_47 : decode cX6_go 47 = .ok (.aload_n 0, 1) := by decide +kernel
theorem dX6_go_48 : decode cX6_go 48 = .ok (.getfield 9, 3) := by decide +kernel
theorem dX6_go_51 : decode cX6_go 51 = .ok (.iload_n 1, 1) := by decide +kernel
theorem dX6_go_52 : decode cX6_go 52 = .ok (.iaload, 1) := by decide +kernel
theorem dX6_go_53 : decode cX6_go 53 = .ok (.if_icmp .ge 51, 3) := by decide +kernel
theorem dX6_go_56 : decode cX6_go 56 = .ok (.aload_n 0, 1) := by decide +kernel
theorem dX6_go_57 : decode cX6_go 57 = .ok (.getfield 13, 3) := by decide +kernel
theorem dX6_go_60 : decode cX6_go 60 = .ok (.bipush 12, 2) := by decide +kernel
theorem dX6_go_62 : decode cX6_go 62 = .ok (.iload_n 1, 1) := by decide +kernel
theorem dX6_go_63 : decode cX6_go 63 = .ok (.imul, 1) := by decide +kernel
theorem dX6_go_64 : decode cX6_go 64 = .ok (.aload_n 0, 1) := by decide +kernel
theorem dX6_go_65 : decode cX6_go 65 = .ok (.getfield 22, 3) := by decide +kernel
theorem dX6_go_68 : decode cX6_go 68 = .ok (.bipush 20, 2) := by decide +kernel
theorem dX6_go_70 : decode cX6_go 70 = .ok (.iload_n 1, 1) := by decide +kernel
theorem dX6_go_71 : decode cX6_go 71 = .ok (.iadd, 1) := by decide +kernel
theorem dX6_go_72 : decode cX6_go 72 = .ok (.iaload, 1) := by decide +kernel
theorem dX6_go_73 : decode cX6_go 73 = .ok (.iadd, 1) := by decide +kernel
theorem dX6_go_74 : decode cX6_go 74 = .ok (.iaload, 1) := by decide +kernel
theorem dX6_go_75 : decode cX6_go 75 = .ok (.iconst 3, 1) := by decide +kernel
theorem dX6_go_76 : decode cX6_go 76 = .ok (.if_icmp .eq 7, 3) := by decide +kernel
theorem dX6_go_79 : decode cX6_go 79 = .ok (.iconst 1, 1) := by decide +kernel
theorem dX6_go_80 : decode cX6_go 80 = .ok (.goto 4, 3) := by decide +kernel
theorem dX6_go_83 : decode cX6_go 83 = .ok (.iconst 0, 1) := by decide +kernel
theorem dX6_go_84 : decode cX6_go 84 = .ok (.istore_n 3, 1) := by decide +kernel
theorem dX6_go_85 : decode cX6_go 85 = .ok (.iload_n 2, 1) := by decide +kernel
theorem dX6_go_86 : decode cX6_go 86 = .ok (.aload_n 0, 1) := by decide +kernel
theorem dX6_go_87 : decode cX6_go 87 = .ok (.iload_n 1, 1) := by decide +kernel
theorem dX6_go_88 : decode cX6_go 88 = .ok (.invokevirtual 69, 3) := by decide +kernel
theorem dX6_go_91 : decode cX6_go 91 = .ok (.ifCond .eq 7, 3) := by decide +kernel
theorem dX6_go_94 : decode cX6_go 94 = .ok (.iconst 1, 1) := by decide +kernel
theorem dX6_go_95 : decode cX6_go 95 = .ok (.goto 4, 3) := by decide +kernel
theorem dX6_go_98 : decode cX6_go 98 = .ok (.iconst 0, 1) := by decide +kernel
theorem dX6_go_99 : decode cX6_go 99 = .ok (.iadd, 1) := by decide +kernel
theorem dX6_go_100 : decode cX6_go 100 = .ok (.istore_n 2, 1) := by decide +kernel
theorem dX6_go_101 : decode cX6_go 101 = .ok (.goto (-84), 3) := by decide +kernel
theorem dX6_go_104 : decode cX6_go 104 = .ok (.aload_n 0, 1) := by decide +kernel
theorem dX6_go_105 : decode cX6_go 105 = .ok (.getfield 22, 3) := by decide +kernel
theorem dX6_go_108 : decode cX6_go 108 = .ok (.bipush 36, 2) := by decide +kernel
theorem dX6_go_110 : decode cX6_go 110 = .ok (.iload_n 1, 1) := by decide +kernel
theorem dX6_go_111 : decode cX6_go 111 = .ok (.iadd, 1) := by decide +kernel
theorem dX6_go_112 : decode cX6_go 112 = .ok (.dup2, 1) := by decide +kernel
theorem dX6_go_113 : decode cX6_go 113 = .ok (.iaload, 1) := by decide +kernel
theorem dX6_go_114 : decode cX6_go 114 = .ok (.iload_n 2, 1) := by decide +kernel
theorem dX6_go_115 : decode cX6_go 115 = .ok (.iadd, 1) := by decide +kernel
theorem dX6_go_116 : decode cX6_go 116 = .ok (.iastore, 1) := by decide +kernel
theorem dX6_go_117 : decode cX6_go 117 = .ok (.aload_n 0, 1) := by decide +kernel
theorem dX6_go_118 : decode cX6_go 118 = .ok (.getfield 22, 3) := by decide +kernel
theorem dX6_go_121 : decode cX6_go 121 = .ok (.bipush 12, 2) := by decide +kernel
theorem dX6_go_123 : decode cX6_go 123 = .ok (.iload_n 1, 1) := by decide +kernel
theorem dX6_go_124 : decode cX6_go 124 = .ok (.iadd, 1) := by decide +kernel
theorem dX6_go_125 : decode cX6_go 125 = .ok (.iaload, 1) := by decide +kernel
theorem dX6_go_126 : decode cX6_go 126 = .ok (.ifCond .eq 4, 3) := by decide +kernel
theorem dX6_go_129 : decode cX6_go 129 = .ok (.return_, 1) := by decide +kernel
theorem dX6_go_130 : decode cX6_go 130 = .ok (.aload_n 0, 1) := by decide +kernel
theorem dX6_go_131 : decode cX6_go 131 = .ok (.getfield 22, 3) := by decide +kernel
theorem dX6_go_134 : decode cX6_go 134 = .ok (.bipush 20, 2) := by decide +kernel
theorem dX6_go_136 : decode cX6_go 136 = .ok (.iload_n 1, 1) := by decide +kernel
theorem dX6_go_137 : decode cX6_go 137 = .ok (.iadd, 1) := by decide +kernel
theorem dX6_go_138 : decode cX6_go 138 = .ok (.iaload, 1) := by decide +kernel
theorem dX6_go_139 : decode cX6_go 139 = .ok (.aload_n 0, 1) := by decide +kernel
theorem dX6_go_140 : decode cX6_go 140 = .ok (.getfield 9, 3) := by decide +kernel
theorem dX6_go_143 : decode cX6_go 143 = .ok (.iload_n 1, 1) := by decide +kernel
theorem dX6_go_144 : decode cX6_go 144 = .ok (.iaload, 1) := by decide +kernel
theorem dX6_go_145 : decode cX6_go 145 = .ok (.if_icmp .ne 11, 3) := by decide +kernel
theorem dX6_go_148 : decode cX6_go 148 = .ok (.aload_n 0, 1) := by decide +kernel
theorem dX6_go_149 : decode cX6_go 149 = .ok (.iload_n 1, 1) := by decide +kernel
theorem dX6_go_150 : decode cX6_go 150 = .ok (.invokevirtual 73, 3) := by decide +kernel
theorem dX6_go_153 : decode cX6_go 153 = .ok (.goto 8, 3) := by decide +kernel
theorem dX6_go_156 : decode cX6_go 156 = .ok (.aload_n 0, 1) := by decide +kernel
theorem dX6_go_157 : decode cX6_go 157 = .ok (.iload_n 1, 1) := by decide +kernel
theorem dX6_go_158 : decode cX6_go 158 = .ok (.invokevirtual 51, 3) := by decide +kernel
theorem dX6_go_161 : decode cX6_go 161 = .ok (.return_, 1) := by decide +kernel
theorem dX6_turnOn_0 : decode cX6_turnOn 0 = .ok (.iconst 0, 1) := by decide +kernel
theorem dX6_turnOn_1 : decode cX6_turnOn 1 = .ok (.istore_n 1, 1) := by decide +kernel
theorem dX6_turnOn_2 : decode cX6_turnOn 2 = .ok (.iload_n 1, 1) := by decide +kernel
theorem dX6_turnOn_3 : decode cX6_turnOn 3 = .ok (.aload_n 0, 1) := by decide +kernel
theorem dX6_turnOn_4 : decode cX6_turnOn 4 = .ok (.getfield 39, 3) := by decide +kernel
theorem dX6_turnOn_7 : decode cX6_turnOn 7 = .ok (.if_icmp .ge 45, 3) := by decide +kernel
theorem dX6_turnOn_10 : decode cX6_turnOn 10 = .ok (.aload_n 0, 1) := by decide +kernel
theorem dX6_turnOn_11 : decode cX6_turnOn 11 = .ok (.getfield 22, 3) := by decide +kernel
theorem dX6_turnOn_14 : decode cX6_turnOn 14 = .ok (.bipush 12, 2) := by decide +kernel
theorem dX6_turnOn_16 : decode cX6_turnOn 16 = .ok (.iload_n 1, 1) := by decide +kernel
theorem dX6_turnOn_17 : decode cX6_turnOn 17 = .ok (.iadd, 1) := by decide +kernel
theorem dX6_turnOn_18 : decode cX6_turnOn 18 = .ok (.iaload, 1) := by decide +kernel
theorem dX6_turnOn_19 : decode cX6_turnOn 19 = .ok (.iconst 3, 1) := by decide +kernel
theorem dX6_turnOn_20 : decode cX6_turnOn 20 = .ok (.if_icmp .ne 26, 3) := by decide +kernel
theorem dX6_turnOn_23 : decode cX6_turnOn 23 = .ok (.aload_n 0, 1) := by decide +kernel
theorem dX6_turnOn_24 : decode cX6_turnOn 24 = .ok (.getfield 22, 3) := by decide +kernel
theorem dX6_turnOn_27 : decode cX6_turnOn 27 = .ok (.bipush 52, 2) := by decide +kernel
theorem dX6_turnOn_29 : decode cX6_turnOn 29 = .ok (.iload_n 1, 1) := by decide +kernel
theorem dX6_turnOn_30 : decode cX6_turnOn 30 = .ok (.iadd, 1) := by decide +kernel
theorem dX6_turnOn_31 : decode cX6_turnOn 31 = .ok (.iaload, 1) := by decide +kernel
theorem dX6_turnOn_32 : decode cX6_turnOn 32 = .ok (.aload_n 0, 1) := by decide +kernel
theorem dX6_turnOn_33 : decode cX6_turnOn 33 = .ok (.getfield 22, 3) := by decide +kernel
theorem dX6_turnOn_36 : decode cX6_turnOn 36 = .ok (.iconst 0, 1) := by decide +kernel
theorem dX6_turnOn_37 : decode cX6_turnOn 37 = .ok (.iaload, 1) := by decide +kernel
theorem dX6_turnOn_38 : decode cX6_turnOn 38 = .ok (.if_icmp .ne 8, 3) := by decide +kernel
theorem dX6_turnOn_41 : decode cX6_turnOn 41 = .ok (.aload_n 0, 1) := by decide +kernel
theorem dX6_turnOn_42 : decode cX6_turnOn 42 = .ok (.iload_n 1, 1) := by decide +kernel
theorem dX6_turnOn_43 : decode cX6_turnOn 43 = .ok (.invokevirtual 51, 3) := by decide +kernel
theorem dX6_turnOn_46 : decode cX6_turnOn 46 = .ok (.iinc 1 1, 3) := by decide +kernel
theorem dX6_turnOn_49 : decode cX6_turnOn 49 = .ok (.goto (-47), 3) := by decide +kernel
theorem dX6_turnOn_52 : decode cX6_turnOn 52 = .ok (.aload_n 0, 1) := by decide +kernel
theorem dX6_turnOn_53 : decode cX6_turnOn 53 = .ok (.getfield 22, 3) := by decide +kernel
theorem dX6_turnOn_56 : decode cX6_turnOn 56 = .ok (.iconst 3, 1) := by decide +kernel
theorem dX6_turnOn_57 : decode cX6_turnOn 57 = .ok (.iaload, 1) := by decide +kernel
theorem dX6_turnOn_58 : decode cX6_turnOn 58 = .ok (.ifCond .ne 16, 3) := by decide +kernel
theorem dX6_turnOn_61 : decode cX6_turnOn 61 = .ok (.aload_n 0, 1) := by decide +kernel
theorem dX6_turnOn_62 : decode cX6_turnOn 62 = .ok (.getfield 22, 3) := by decide +kernel
theorem dX6_turnOn_65 : decode cX6_turnOn 65 = .ok (.iconst 1, 1) := by decide +kernel
theorem dX6_turnOn_66 : decode cX6_turnOn 66 = .ok (.dup2, 1) := by decide +kernel
theorem dX6_turnOn_67 : decode cX6_turnOn 67 = .ok (.iaload, 1) := by decide +kernel
theorem dX6_turnOn_68 : decode cX6_turnOn 68 = .ok (.iconst 1, 1) := by decide +kernel
theorem dX6_turnOn_69 : decode cX6_turnOn 69 = .ok (.iadd, 1) := by decide +kernel
theorem dX6_turnOn_70 : decode cX6_turnOn 70 = .ok (.iastore, 1) := by decide +kernel
theorem dX6_turnOn_71 : decode cX6_turnOn 71 = .ok (.goto 44, 3) := by decide +kernel
theorem dX6_turnOn_74 : decode cX6_turnOn 74 = .ok (.aload_n 0, 1) := by decide +kernel
theorem dX6_turnOn_75 : decode cX6_turnOn 75 = .ok (.getfield 22, 3) := by decide +kernel
theorem dX6_turnOn_78 : decode cX6_turnOn 78 = .ok (.iconst 4, 1) := by decide +kernel
theorem dX6_turnOn_79 : decode cX6_turnOn 79 = .ok (.iaload, 1) := by decide +kernel
theorem dX6_turnOn_80 : decode cX6_turnOn 80 = .ok (.istore_n 1, 1) := by decide +kernel
theorem dX6_turnOn_81 : decode cX6_turnOn 81 = .ok (.aload_n 0, 1) := by decide +kernel
theorem dX6_turnOn_82 : decode cX6_turnOn 82 = .ok (.getfield 22, 3) := by decide +kernel
theorem dX6_turnOn_85 : decode cX6_turnOn 85 = .ok (.iconst 3, 1) := by decide +kernel
theorem dX6_turnOn_86 : decode cX6_turnOn 86 = .ok (.dup2, 1) := by decide +kernel
theorem dX6_turnOn_87 : decode cX6_turnOn 87 = .ok (.iaload, 1) := by decide +kernel
theorem dX6_turnOn_88 : decode cX6_turnOn 88 = .ok (.iconst 1, 1) := by decide +kernel
theorem dX6_turnOn_89 : decode cX6_turnOn 89 = .ok (.isub, 1) := by decide +kernel
theorem dX6_turnOn_90 : decode cX6_turnOn 90 = .ok (.iastore, 1) := by decide +kernel
theorem dX6_turnOn_91 : decode cX6_turnOn 91 = .ok (.aload_n 0, 1) := by decide +kernel
theorem dX6_turnOn_92 : decode cX6_turnOn 92 = .ok (.getfield 22, 3) := by decide +kernel
theorem dX6_turnOn_95 : decode cX6_turnOn 95 = .ok (.iconst 5, 1) := by decide +kernel
theorem dX6_turnOn_96 : decode cX6_turnOn 96 = .ok (.aload_n 0, 1) := by decide +kernel
theorem dX6_turnOn_97 : decode cX6_turnOn 97 = .ok (.getfield 22, 3) := by decide +kernel
theorem dX6_turnOn_100 : decode cX6_turnOn 100 = .ok (.iconst 4, 1) := by decide +kernel
theorem dX6_turnOn_101 : decode cX6_turnOn 101 = .ok (.aload_n 0, 1) := by decide +kernel
theorem dX6_turnOn_102 : decode cX6_turnOn 102 = .ok (.getfield 22, 3) := by decide +kernel
theorem dX6_turnOn_105 : decode cX6_turnOn 105 = .ok (.iconst 3, 1) := by decide +kernel
theorem dX6_turnOn_106 : decode cX6_turnOn 106 = .ok (.iaload, 1) := by decide +kernel
theorem dX6_turnOn_107 : decode cX6_turnOn 107 = .ok (.invokestatic 42, 3) := by decide +kernel
theorem dX6_turnOn_110 : decode cX6_turnOn 110 = .ok (.aload_n 0, 1) := by decide +kernel
theorem dX6_turnOn_111 : decode cX6_turnOn 111 = .ok (.iload_n 1, 1) := by decide +kernel
theorem dX6_turnOn_112 : decode cX6_turnOn 112 = .ok (.invokevirtual 76, 3) := by decide +kernel
theorem dX6_turnOn_115 : decode cX6_turnOn 115 = .ok (.aload_n 0, 1) := by decide +kernel
theorem dX6_turnOn_116 : decode cX6_turnOn 116 = .ok (.getfield 22, 3) := by decide +kernel
theorem dX6_turnOn_119 : decode cX6_turnOn 119 = .ok (.iconst 0, 1) := by decide +kernel
theorem dX6_turnOn_120 : decode cX6_turnOn 120 = .ok (.dup2, 1) := by decide +kernel
theorem dX6_turnOn_121 : decode cX6_turnOn 121 = .ok (.iaload, 1) := by decide +kernel
theorem dX6_turnOn_122 : decode cX6_turnOn 122 = .ok (.iconst 1, 1) := by decide +kernel
theorem dX6_turnOn_123 : decode cX6_turnOn 123 = .ok (.iadd, 1) := by decide +kernel
theorem dX6_turnOn_124 : decode cX6_turnOn 124 = .ok (.iastore, 1) := by decide +kernel
theorem dX6_turnOn_125 : decode cX6_turnOn 125 = .ok (.return_, 1) := by decide +kernel
theorem dX6_addChannel_0 : decode cX6_addChannel 0 = .ok (.aload_n 0, 1) := by decide +kernel
theorem dX6_addChannel_1 : decode cX6_addChannel 1 = .ok (.iconst 0, 1) := by decide +kernel
theorem dX6_addChannel_2 : decode cX6_addChannel 2 = .ok (.putfield 28, 3) := by decide +kernel
theorem dX6_addChannel_5 : decode cX6_addChannel 5 = .ok (.iload_n 1, 1) := by decide +kernel
theorem dX6_addChannel_6 : decode cX6_addChannel 6 = .ok (.iconst 1, 1) := by decide +kernel
theorem dX6_addChannel_7 : decode cX6_addChannel 7 = .ok (.iconst 4, 1) := by decide +kernel
theorem dX6_addChannel_8 : decode cX6_addChannel 8 = .ok (.invokestatic 35, 3) := by decide +kernel
theorem dX6_addChannel_11 : decode cX6_addChannel 11 = .ok (.ifCond .ne 9, 3) := by decide +kernel
theorem dX6_addChannel_14 : decode cX6_addChannel 14 = .ok (.aload_n 0, 1) := by decide +kernel
theorem dX6_addChannel_15 : decode cX6_addChannel 15 = .ok (.iconst 1, 1) := by decide +kernel
theorem dX6_addChannel_16 : decode cX6_addChannel 16 = .ok (.invokevirtual 79, 3) := by decide +kernel
theorem dX6_addChannel_19 : decode cX6_addChannel 19 = .ok (.ireturn, 1) := by decide +kernel
theorem dX6_addChannel_20 : decode cX6_addChannel 20 = .ok (.aload_n 0, 1) := by decide +kernel
theorem dX6_addChannel_21 : decode cX6_addChannel 21 = .ok (.getfield 32, 3) := by decide +kernel
theorem dX6_addChannel_24 : decode cX6_addChannel 24 = .ok (.iconst 4, 1) := by decide +kernel
theorem dX6_addChannel_25 : decode cX6_addChannel 25 = .ok (.if_icmp .ne 9, 3) := by decide +kernel
theorem dX6_addChannel_28 : decode cX6_addChannel 28 = .ok (.aload_n 0, 1) := by decide +kernel
theorem dX6_addChannel_29 : decode cX6_addChannel 29 = .ok (.iconst 2, 1) := by decide +kernel
theorem dX6_addChannel_30 : decode cX6_addChannel 30 = .ok (.invokevirtual 79, 3) := by decide +kernel
theorem dX6_addChannel_33 : decode cX6_addChannel 33 = .ok (.ireturn, 1) := by decide +kernel
theorem dX6_addChannel_34 : decode cX6_addChannel 34 = .ok (.aload_n 0, 1) := by decide +kernel
theorem dX6_addChannel_35 : decode cX6_addChannel 35 = .ok (.getfield 22, 3) := by decide +kernel
theorem dX6_addChannel_38 : decode cX6_addChannel 38 = .ok (.sipush 164, 3) := by decide +kernel
theorem dX6_addChannel_41 : decode cX6_addChannel 41 = .ok (.aload_n 0, 1) := by decide +kernel
theorem dX6_addChannel_42 : decode cX6_addChannel 42 = .ok (.getfield 32, 3) := by decide +kernel
theorem dX6_addChannel_45 : decode cX6_addChannel 45 = .ok (.iadd, 1) := by decide +kernel
theorem dX6_addChannel_46 : decode cX6_addChannel 46 = .ok (.iload_n 1, 1) := by decide +kernel
theorem dX6_addChannel_47 : decode cX6_addChannel 47 = .ok (.iastore, 1) := by decide +kernel
theorem dX6_addChannel_48 : decode cX6_addChannel 48 = .ok (.aload_n 0, 1) := by decide +kernel
theorem dX6_addChannel_49 : decode cX6_addChannel 49 = .ok (.dup, 1) := by decide +kernel
theorem dX6_addChannel_50 : decode cX6_addChannel 50 = .ok (.getfield 32, 3) := by decide +kernel
theorem dX6_addChannel_53 : decode cX6_addChannel 53 = .ok (.iconst 1, 1) := by decide +kernel
theorem dX6_addChannel_54 : decode cX6_addChannel 54 = .ok (.iadd, 1) := by decide +kernel
theorem dX6_addChannel_55 : decode cX6_addChannel 55 = .ok (.putfield 32, 3) := by decide +kernel
theorem dX6_addChannel_58 : decode cX6_addChannel 58 = .ok (.aload_n 0, 1) := by decide +kernel
theorem dX6_addChannel_59 : decode cX6_addChannel 59 = .ok (.getfield 32, 3) := by decide +kernel
theorem dX6_addChannel_62 : decode cX6_addChannel 62 = .ok (.iconst 1, 1) := by decide +kernel
theorem dX6_addChannel_63 : decode cX6_addChannel 63 = .ok (.isub, 1) := by decide +kernel
theorem dX6_addChannel_64 : decode cX6_addChannel 64 = .ok (.ireturn, 1) := by decide +kernel
theorem dX6_addFiber_0 : decode cX6_addFiber 0 = .ok (.aload_n 0, 1) := by decide +kernel
theorem dX6_addFiber_1 : decode cX6_addFiber 1 = .ok (.iconst 0, 1) := by decide +kernel
theorem dX6_addFiber_2 : decode cX6_addFiber 2 = .ok (.putfield 28, 3) := by decide +kernel
theorem dX6_addFiber_5 : decode cX6_addFiber 5 = .ok (.aload_n 0, 1) := by decide +kernel
theorem dX6_addFiber_6 : decode cX6_addFiber 6 = .ok (.getfield 39, 3) := by decide +kernel
theorem dX6_addFiber_9 : decode cX6_addFiber 9 = .ok (.bipush 8, 2) := by decide +kernel
theorem dX6_addFiber_11 : decode cX6_addFiber 11 = .ok (.if_icmp .ne 9, 3) := by decide +kernel
theorem dX6_addFiber_14 : decode cX6_addFiber 14 = .ok (.aload_n 0, 1) := by decide +kernel
theorem dX6_addFiber_15 : decode cX6_addFiber 15 = .ok (.iconst 1, 1) := by decide +kernel
theorem dX6_addFiber_16 : decode cX6_addFiber 16 = .ok (.invokevirtual 79, 3) := by decide +kernel
theorem dX6_addFiber_19 : decode cX6_addFiber 19 = .ok (.ireturn, 1) := by decide +kernel
theorem dX6_addFiber_20 : decode cX6_addFiber 20 = .ok (.aload_n 0, 1) := by decide +kernel
theorem dX6_addFiber_21 : decode cX6_addFiber 21 = .ok (.getfield 22, 3) := by decide +kernel
theorem dX6_addFiber_24 : decode cX6_addFiber 24 = .ok (.bipush 12, 2) := by decide +kernel
theorem dX6_addFiber_26 : decode cX6_addFiber 26 = .ok (.aload_n 0, 1) := by decide +kernel
theorem dX6_addFiber_27 : decode cX6_addFiber 27 = .ok (.getfield 39, 3) := by decide +kernel
theorem dX6_addFiber_30 : decode cX6_addFiber 30 = .ok (.iadd, 1) := by decide +kernel
theorem dX6_addFiber_31 : decode cX6_addFiber 31 = .ok (.iconst 5, 1) := by decide +kernel
theorem dX6_addFiber_32 : decode cX6_addFiber 32 = .ok (.iastore, 1) := by decide +kernel
theorem dX6_addFiber_33 : decode cX6_addFiber 33 = .ok (.aload_n 0, 1) := by decide +kernel
theorem dX6_addFiber_34 : decode cX6_addFiber 34 = .ok (.dup, 1) := by decide +kernel
theorem dX6_addFiber_35 : decode cX6_addFiber 35 = .ok (.getfield 39, 3) := by decide +kernel
theorem dX6_addFiber_38 : decode cX6_addFiber 38 = .ok (.iconst 1, 1) := by decide +kernel
theorem dX6_addFiber_39 : decode cX6_addFiber 39 = .ok (.iadd, 1) := by decide +kernel
theorem dX6_addFiber_40 : decode cX6_addFiber 40 = .ok (.putfield 39, 3) := by decide +kernel
theorem dX6_addFiber_43 : decode cX6_addFiber 43 = .ok (.aload_n 0, 1) := by decide +kernel
theorem dX6_addFiber_44 : decode cX6_addFiber 44 = .ok (.getfield 39, 3) := by decide +kernel
theorem dX6_addFiber_47 : decode cX6_addFiber 47 = .ok (.iconst 1, 1) := by decide +kernel
theorem dX6_addFiber_48 : decode cX6_addFiber 48 = .ok (.isub, 1) := by decide +kernel
theorem dX6_addFiber_49 : decode cX6_addFiber 49 = .ok (.ireturn, 1) := by decide +kernel
theorem dX6_isStep_0 : decode cX6_isStep 0 = .ok (.iload_n 2, 1) := by decide +kernel
theorem dX6_isStep_1 : decode cX6_isStep 1 = .ok (.tableswitch 135 0 6 #[43, 71, 77, 135, 85, 104, 71], 43) := by decide +kernel
theorem dX6_isStep_44 : decode cX6_isStep 44 = .ok (.aload_n 0, 1) := by decide +kernel
theorem dX6_isStep_45 : decode cX6_isStep 45 = .ok (.iload_n 3, 1) := by decide +kernel
theorem dX6_isStep_46 : decode cX6_isStep 46 = .ok (.invokevirtual 82, 3) := by decide +kernel
theorem dX6_isStep_49 : decode cX6_isStep 49 = .ok (.ifCond .eq 21, 3) := by decide +kernel
theorem dX6_isStep_52 : decode cX6_isStep 52 = .ok (.iload 4, 2) := by decide +kernel
theorem dX6_isStep_54 : decode cX6_isStep 54 = .ok (.sipush (-999), 3) := by decide +kernel
theorem dX6_isStep_57 : decode cX6_isStep 57 = .ok (.sipush 999, 3) := by decide +kernel
theorem dX6_isStep_60 : decode cX6_isStep 60 = .ok (.invokestatic 35, 3) := by decide +kernel
theorem dX6_isStep_63 : decode cX6_isStep 63 = .ok (.ifCond .eq 7, 3) := by decide +kernel
theorem dX6_isStep_66 : decode cX6_isStep 66 = .ok (.iconst 1, 1) := by decide +kernel
theorem dX6_isStep_67 : decode cX6_isStep 67 = .ok (.goto 4, 3) := by decide +kernel
theorem dX6_isStep_70 : decode cX6_isStep 70 = .ok (.iconst 0, 1) := by decide +kernel
theorem dX6_isStep_71 : decode cX6_isStep 71 = .ok (.ireturn, 1) := by decide +kernel
theorem dX6_isStep_72 : decode cX6_isStep 72 = .ok (.aload_n 0, 1) := by decide +kernel
theorem dX6_isStep_73 : decode cX6_isStep 73 = .ok (.iload_n 3, 1) := by decide +kernel
theorem dX6_isStep_74 : decode cX6_isStep 74 = .ok (.invokevirtual 82, 3) := by decide +kernel
theorem dX6_isStep_77 : decode cX6_isStep 77 = .ok (.ireturn, 1) := by decide +kernel
theorem dX6_isStep_78 : decode cX6_isStep 78 = .ok (.iload_n 3, 1) := by decide +kernel
theorem dX6_isStep_79 : decode cX6_isStep 79 = .ok (.iconst 1, 1) := by decide +kernel
theorem dX6_isStep_80 : decode cX6_isStep 80 = .ok (.bipush 20, 2) := by decide +kernel
theorem dX6_isStep_82 : decode cX6_isStep 82 = .ok (.invokestatic 35, 3) := by decide +kernel
theorem dX6_isStep_85 : decode cX6_isStep 85 = .ok (.ireturn, 1) := by decide +kernel
theorem dX6_isStep_86 : decode cX6_isStep 86 = .ok (.aload_n 0, 1) := by decide +kernel
theorem dX6_isStep_87 : decode cX6_isStep 87 = .ok (.iload_n 3, 1) := by decide +kernel
theorem dX6_isStep_88 : decode cX6_isStep 88 = .ok (.invokevirtual 85, 3) := by decide +kernel
theorem dX6_isStep_91 : decode cX6_isStep 91 = .ok (.ifCond .eq 12, 3) := by decide +kernel
theorem dX6_isStep_94 : decode cX6_isStep 94 = .ok (.iload_n 3, 1) := by decide +kernel
theorem dX6_isStep_95 : decode cX6_isStep 95 = .ok (.iload_n 1, 1) := by decide +kernel
theorem dX6_isStep_96 : decode cX6_isStep 96 = .ok (.if_icmp .eq 7, 3) := by decide +kernel
theorem dX6_isStep_99 : decode cX6_isStep 99 = .ok (.iconst 1, 1) := by decide +kernel
theorem dX6_isStep_100 : decode cX6_isStep 100 = .ok (.goto 4, 3) := by decide +kernel
theorem dX6_isStep_103 : decode cX6_isStep 103 = .ok (.iconst 0, 1) := by decide +kernel
theorem dX6_isStep_104 : decode cX6_isStep 104 = .ok (.ireturn, 1) := by decide +kernel
theorem dX6_isStep_105 : decode cX6_isStep 105 = .ok (.iload_n 3, 1) := by decide +kernel
theorem dX6_isStep_106 : decode cX6_isStep 106 = .ok (.iconst 0, 1) := by decide +kernel
theorem dX6_isStep_107 : decode cX6_isStep 107 = .ok (.aload_n 0, 1) := by decide +kernel
theorem dX6_isStep_108 : decode cX6_isStep 108 = .ok (.getfield 9, 3) := by decide +kernel
theorem dX6_isStep_111 : decode cX6_isStep 111 = .ok (.iload_n 1, 1) := by decide +kernel
theorem dX6_isStep_112 : decode cX6_isStep 112 = .ok (.iaload, 1) := by decide +kernel
theorem dX6_isStep_113 : decode cX6_isStep 113 = .ok (.invokestatic 35, 3) := by decide +kernel
theorem dX6_isStep_116 : decode cX6_isStep 116 = .ok (.ifCond .eq 18, 3) := by decide +kernel
theorem dX6_isStep_119 : decode cX6_isStep 119 = .ok (.iload 4, 2) := by decide +kernel
theorem dX6_isStep_121 : decode cX6_isStep 121 = .ok (.iconst 1, 1) := by decide +kernel
theorem dX6_isStep_122 : decode cX6_isStep 122 = .ok (.bipush 9, 2) := by decide +kernel
theorem dX6_isStep_124 : decode cX6_isStep 124 = .ok (.invokestatic 35, 3) := by decide +kernel
theorem dX6_isStep_127 : decode cX6_isStep 127 = .ok (.ifCond .eq 7, 3) := by decide +kernel
theorem dX6_isStep_130 : decode cX6_isStep 130 = .ok (.iconst 1, 1) := by decide +kernel
theorem dX6_isStep_131 : decode cX6_isStep 131 = .ok (.goto 4, 3) := by decide +kernel
theorem dX6_isStep_134 : decode cX6_isStep 134 = .ok (.iconst 0, 1) := by decide +kernel
theorem dX6_isStep_135 : decode cX6_isStep 135 = .ok (.ireturn, 1) := by decide +kernel
theorem dX6_isStep_136 : decode cX6_isStep 136 = .ok (.iload_n 2, 1) := by decide +kernel
theorem dX6_isStep_137 : decode cX6_isStep 137 = .ok (.iconst 3, 1) := by decide +kernel
theorem dX6_isStep_138 : decode cX6_isStep 138 = .ok (.if_icmp .ne 7, 3) := by decide +kernel
theorem dX6_isStep_141 : decode cX6_isStep 141 = .ok (.iconst 1, 1) := by decide +kernel
theorem dX6_isStep_142 : decode cX6_isStep 142 = .ok (.goto 4, 3) := by decide +kernel
theorem dX6_isStep_145 : decode cX6_isStep 145 = .ok (.iconst 0, 1) := by decide +kernel
theorem dX6_isStep_146 : decode cX6_isStep 146 = .ok (.ireturn, 1) := by decide +kernel
theorem dX6_addStep_0 : decode cX6_addStep 0 = .ok (.aload_n 0, 1) := by decide +kernel
theorem dX6_addStep_1 : decode cX6_addStep 1 = .ok (.iconst 0, 1) := by decide +kernel
theorem dX6_addStep_2 : decode cX6_addStep 2 = .ok (.putfield 28, 3) := by decide +kernel
theorem dX6_addStep_5 : decode cX6_addStep 5 = .ok (.aload_n 0, 1) := by decide +kernel
theorem dX6_addStep_6 : decode cX6_addStep 6 = .ok (.iload_n 1, 1) := by decide +kernel
theorem dX6_addStep_7 : decode cX6_addStep 7 = .ok (.invokevirtual 85, 3) := by decide +kernel
theorem dX6_addStep_10 : decode cX6_addStep 10 = .ok (.ifCond .ne 9, 3) := by decide +kernel
theorem dX6_addStep_13 : decode cX6_addStep 13 = .ok (.aload_n 0, 1) := by decide +kernel
theorem dX6_addStep_14 : decode cX6_addStep 14 = .ok (.iconst 1, 1) := by decide +kernel
theorem dX6_addStep_15 : decode cX6_addStep 15 = .ok (.invokevirtual 79, 3) := by decide +kernel
theorem dX6_addStep_18 : decode cX6_addStep 18 = .ok (.ireturn, 1) := by decide +kernel
theorem dX6_addStep_19 : decode cX6_addStep 19 = .ok (.aload_n 0, 1) := by decide +kernel
theorem dX6_addStep_20 : decode cX6_addStep 20 = .ok (.iload_n 1, 1) := by decide +kernel
theorem dX6_addStep_21 : decode cX6_addStep 21 = .ok (.iload_n 2, 1) := by decide +kernel
theorem dX6_addStep_22 : decode cX6_addStep 22 = .ok (.iload_n 3, 1) := by decide +kernel
theorem dX6_addStep_23 : decode cX6_addStep 23 = .ok (.iload 4, 2) := by decide +kernel
theorem dX6_addStep_25 : decode cX6_addStep 25 = .ok (.invokevirtual 88, 3) := by decide +kernel
theorem dX6_addStep_28 : decode cX6_addStep 28 = .ok (.ifCond .ne 9, 3) := by decide +kernel
theorem dX6_addStep_31 : decode cX6_addStep 31 = .ok (.aload_n 0, 1) := by decide +kernel
theorem dX6_addStep_32 : decode cX6_addStep 32 = .ok (.iconst 2, 1) := by decide +kernel
theorem dX6_addStep_33 : decode cX6_addStep 33 = .ok (.invokevirtual 79, 3) := by decide +kernel
theorem dX6_addStep_36 : decode cX6_addStep 36 = .ok (.ireturn, 1) := by decide +kernel
theorem dX6_addStep_37 : decode cX6_addStep 37 = .ok (.aload_n 0, 1) := by decide +kernel
theorem dX6_addStep_38 : decode cX6_addStep 38 = .ok (.getfield 9, 3) := by decide +kernel
theorem dX6_addStep_41 : decode cX6_addStep 41 = .ok (.iload_n 1, 1) := by decide +kernel
theorem dX6_addStep_42 : decode cX6_addStep 42 = .ok (.iaload, 1) := by decide +kernel
theorem dX6_addStep_43 : decode cX6_addStep 43 = .ok (.bipush 12, 2) := by decide +kernel
theorem dX6_addStep_45 : decode cX6_addStep 45 = .ok (.if_icmp .ne 9, 3) := by decide +kernel
theorem dX6_addStep_48 : decode cX6_addStep 48 = .ok (.aload_n 0, 1) := by decide +kernel
theorem dX6_addStep_49 : decode cX6_addStep 49 = .ok (.iconst 3, 1) := by decide +kernel
theorem dX6_addStep_50 : decode cX6_addStep 50 = .ok (.invokevirtual 79, 3) := by decide +kernel
theorem dX6_addStep_53 : decode cX6_addStep 53 = .ok (.ireturn, 1) := by decide +kernel
theorem dX6_addStep_54 : decode cX6_addStep 54 = .ok (.bipush 12, 2) := by decide +kernel
theorem dX6_addStep_56 : decode cX6_addStep 56 = .ok (.iload_n 1, 1) := by decide +kernel
theorem dX6_addStep_57 : decode cX6_addStep 57 = .ok (.imul, 1) := by decide +kernel
theorem dX6_addStep_58 : decode cX6_addStep 58 = .ok (.aload_n 0, 1) := by decide +kernel
theorem dX6_addStep_59 : decode cX6_addStep 59 = .ok (.getfield 9, 3) := by decide +kernel
theorem dX6_addStep_62 : decode cX6_addStep 62 = .ok (.iload_n 1, 1) := by decide +kernel
theorem dX6_addStep_63 : decode cX6_addStep 63 = .ok (.iaload, 1) := by decide +kernel
theorem dX6_addStep_64 : decode cX6_addStep 64 = .ok (.iadd, 1) := by decide +kernel
theorem dX6_addStep_65 : decode cX6_addStep 65 = .ok (.istore 5, 2) := by decide +kernel
theorem dX6_addStep_67 : decode cX6_addStep 67 = .ok (.aload_n 0, 1) := by decide +kernel
theorem dX6_addStep_68 : decode cX6_addStep 68 = .ok (.getfield 13, 3) := by decide +kernel
theorem dX6_addStep_71 : decode cX6_addStep 71 = .ok (.iload 5, 2) := by decide +kernel
theorem dX6_addStep_73 : decode cX6_addStep 73 = .ok (.iload_n 2, 1) := by decide +kernel
theorem dX6_addStep_74 : decode cX6_addStep 74 = .ok (.iastore, 1) := by decide +kernel
theorem dX6_addStep_75 : decode cX6_addStep 75 = .ok (.aload_n 0, 1) := by decide +kernel
theorem dX6_addStep_76 : decode cX6_addStep 76 = .ok (.getfield 16, 3) := by decide +kernel
theorem dX6_addStep_79 : decode cX6_addStep 79 = .ok (.iload 5, 2) := by decide +kernel
theorem dX6_addStep_81 : decode cX6_addStep 81 = .ok (.iload_n 3, 1) := by decide +kernel
theorem dX6_addStep_82 : decode cX6_addStep 82 = .ok (.iastore, 1) := by decide +kernel
theorem dX6_addStep_83 : decode cX6_addStep 83 = .ok (.aload_n 0, 1) := by decide +kernel
theorem dX6_addStep_84 : decode cX6_addStep 84 = .ok (.getfield 19, 3) := by decide +kernel
theorem dX6_addStep_87 : decode cX6_addStep 87 = .ok (.iload 5, 2) := by decide +kernel
theorem dX6_addStep_89 : decode cX6_addStep 89 = .ok (.iload 4, 2) := by decide +kernel
theorem dX6_addStep_91 : decode cX6_addStep 91 = .ok (.iastore, 1) := by decide +kernel
theorem dX6_addStep_92 : decode cX6_addStep 92 = .ok (.aload_n 0, 1) := by decide +kernel
theorem dX6_addStep_93 : decode cX6_addStep 93 = .ok (.getfield 9, 3) := by decide +kernel
theorem dX6_addStep_96 : decode cX6_addStep 96 = .ok (.iload_n 1, 1) := by decide +kernel
theorem dX6_addStep_97 : decode cX6_addStep 97 = .ok (.dup2, 1) := by decide +kernel
theorem dX6_addStep_98 : decode cX6_addStep 98 = .ok (.iaload, 1) := by decide +kernel
theorem dX6_addStep_99 : decode cX6_addStep 99 = .ok (.iconst 1, 1) := by decide +kernel
theorem dX6_addStep_100 : decode cX6_addStep 100 = .ok (.iadd, 1) := by decide +kernel
theorem dX6_addStep_101 : decode cX6_addStep 101 = .ok (.iastore, 1) := by decide +kernel
theorem dX6_addStep_102 : decode cX6_addStep 102 = .ok (.aload_n 0, 1) := by decide +kernel
theorem dX6_addStep_103 : decode cX6_addStep 103 = .ok (.getfield 22, 3) := by decide +kernel
theorem dX6_addStep_106 : decode cX6_addStep 106 = .ok (.bipush 12, 2) := by decide +kernel
theorem dX6_addStep_108 : decode cX6_addStep 108 = .ok (.iload_n 1, 1) := by decide +kernel
theorem dX6_addStep_109 : decode cX6_addStep 109 = .ok (.iadd, 1) := by decide +kernel
theorem dX6_addStep_110 : decode cX6_addStep 110 = .ok (.iaload, 1) := by decide +kernel
theorem dX6_addStep_111 : decode cX6_addStep 111 = .ok (.iconst 5, 1) := by decide +kernel
theorem dX6_addStep_112 : decode cX6_addStep 112 = .ok (.if_icmp .ne 8, 3) := by decide +kernel
theorem dX6_addStep_115 : decode cX6_addStep 115 = .ok (.aload_n 0, 1) := by decide +kernel
theorem dX6_addStep_116 : decode cX6_addStep 116 = .ok (.iload_n 1, 1) := by decide +kernel
theorem dX6_addStep_117 : decode cX6_addStep 117 = .ok (.invokevirtual 51, 3) := by decide +kernel
theorem dX6_addStep_120 : decode cX6_addStep 120 = .ok (.aload_n 0, 1) := by decide +kernel
theorem dX6_addStep_121 : decode cX6_addStep 121 = .ok (.getfield 9, 3) := by decide +kernel
theorem dX6_addStep_124 : decode cX6_addStep 124 = .ok (.iload_n 1, 1) := by decide +kernel
theorem dX6_addStep_125 : decode cX6_addStep 125 = .ok (.iaload, 1) := by decide +kernel
theorem dX6_addStep_126 : decode cX6_addStep 126 = .ok (.iconst 1, 1) := by decide +kernel
theorem dX6_addStep_127 : decode cX6_addStep 127 = .ok (.isub, 1) := by decide +kernel
theorem dX6_addStep_128 : decode cX6_addStep 128 = .ok (.ireturn, 1) := by decide +kernel
theorem dX6_pour_0 : decode cX6_pour 0 = .ok (.aload_n 0, 1) := by decide +kernel
theorem dX6_pour_1 : decode cX6_pour 1 = .ok (.iconst 0, 1) := by decide +kernel
theorem dX6_pour_2 : decode cX6_pour 2 = .ok (.putfield 28, 3) := by decide +kernel
theorem dX6_pour_5 : decode cX6_pour 5 = .ok (.aload_n 0, 1) := by decide +kernel
theorem dX6_pour_6 : decode cX6_pour 6 = .ok (.iload_n 1, 1) := by decide +kernel
theorem dX6_pour_7 : decode cX6_pour 7 = .ok (.invokevirtual 82, 3) := by decide +kernel
theorem dX6_pour_10 : decode cX6_pour 10 = .ok (.ifCond .ne 9, 3) := by decide +kernel
theorem dX6_pour_13 : decode cX6_pour 13 = .ok (.aload_n 0, 1) := by decide +kernel
theorem dX6_pour_14 : decode cX6_pour 14 = .ok (.iconst 1, 1) := by decide +kernel
theorem dX6_pour_15 : decode cX6_pour 15 = .ok (.invokevirtual 79, 3) := by decide +kernel
theorem dX6_pour_18 : decode cX6_pour 18 = .ok (.ireturn, 1) := by decide +kernel
theorem dX6_pour_19 : decode cX6_pour 19 = .ok (.iload_n 2, 1) := by decide +kernel
theorem dX6_pour_20 : decode cX6_pour 20 = .ok (.sipush (-999), 3) := by decide +kernel
theorem dX6_pour_23 : decode cX6_pour 23 = .ok (.sipush 999, 3) := by decide +kernel
theorem dX6_pour_26 : decode cX6_pour 26 = .ok (.invokestatic 35, 3) := by decide +kernel
theorem dX6_pour_29 : decode cX6_pour 29 = .ok (.ifCond .ne 9, 3) := by decide +kernel
theorem dX6_pour_32 : decode cX6_pour 32 = .ok (.aload_n 0, 1) := by decide +kernel
theorem dX6_pour_33 : decode cX6_pour 33 = .ok (.iconst 2, 1) := by decide +kernel
theorem dX6_pour_34 : decode cX6_pour 34 = .ok (.invokevirtual 79, 3) := by decide +kernel
theorem dX6_pour_37 : decode cX6_pour 37 = .ok (.ireturn, 1) := by decide +kernel
theorem dX6_pour_38 : decode cX6_pour 38 = .ok (.aload_n 0, 1) := by decide +kernel
theorem dX6_pour_39 : decode cX6_pour 39 = .ok (.getfield 22, 3) := by decide +kernel
theorem dX6_pour_42 : decode cX6_pour 42 = .ok (.sipush 168, 3) := by decide +kernel
theorem dX6_pour_45 : decode cX6_pour 45 = .ok (.iload_n 1, 1) := by decide +kernel
theorem dX6_pour_46 : decode cX6_pour 46 = .ok (.iadd, 1) := by decide +kernel
theorem dX6_pour_47 : decode cX6_pour 47 = .ok (.iaload, 1) := by decide +kernel
theorem dX6_pour_48 : decode cX6_pour 48 = .ok (.aload_n 0, 1) := by decide +kernel
theorem dX6_pour_49 : decode cX6_pour 49 = .ok (.getfield 22, 3) := by decide +kernel
theorem dX6_pour_52 : decode cX6_pour 52 = .ok (.sipush 164, 3) := by decide +kernel
theorem dX6_pour_55 : decode cX6_pour 55 = .ok (.iload_n 1, 1) := by decide +kernel
theorem dX6_pour_56 : decode cX6_pour 56 = .ok (.iadd, 1) := by decide +kernel
theorem dX6_pour_57 : decode cX6_pour 57 = .ok (.iaload, 1) := by decide +kernel
theorem dX6_pour_58 : decode cX6_pour 58 = .ok (.if_icmp .ne 9, 3) := by decide +kernel
theorem dX6_pour_61 : decode cX6_pour 61 = .ok (.aload_n 0, 1) := by decide +kernel
theorem dX6_pour_62 : decode cX6_pour 62 = .ok (.iconst 3, 1) := by decide +kernel
theorem dX6_pour_63 : decode cX6_pour 63 = .ok (.invokevirtual 79, 3) := by decide +kernel
theorem dX6_pour_66 : decode cX6_pour 66 = .ok (.ireturn, 1) := by decide +kernel
theorem dX6_pour_67 : decode cX6_pour 67 = .ok (.aload_n 0, 1) := by decide +kernel
theorem dX6_pour_68 : decode cX6_pour 68 = .ok (.iload_n 1, 1) := by decide +kernel
theorem dX6_pour_69 : decode cX6_pour 69 = .ok (.iload_n 2, 1) := by decide +kernel
theorem dX6_pour_70 : decode cX6_pour 70 = .ok (.invokevirtual 62, 3) := by decide +kernel
theorem dX6_pour_73 : decode cX6_pour 73 = .ok (.aload_n 0, 1) := by decide +kernel
theorem dX6_pour_74 : decode cX6_pour 74 = .ok (.getfield 22, 3) := by decide +kernel
theorem dX6_pour_77 : decode cX6_pour 77 = .ok (.sipush 168, 3) := by decide +kernel
theorem dX6_pour_80 : decode cX6_pour 80 = .ok (.iload_n 1, 1) := by decide +kernel
theorem dX6_pour_81 : decode cX6_pour 81 = .ok (.iadd, 1) := by decide +kernel
theorem dX6_pour_82 : decode cX6_pour 82 = .ok (.iaload, 1) := by decide +kernel
theorem dX6_pour_83 : decode cX6_pour 83 = .ok (.ireturn, 1) := by decide +kernel
theorem dX6_run_0 : decode cX6_run 0 = .ok (.aload_n 0, 1) := by decide +kernel
theorem dX6_run_1 : decode cX6_run 1 = .ok (.iconst 0, 1) := by decide +kernel
theorem dX6_run_2 : decode cX6_run 2 = .ok (.putfield 28, 3) := by decide +kernel
theorem dX6_run_5 : decode cX6_run 5 = .ok (.iload_n 1, 1) := by decide +kernel
theorem dX6_run_6 : decode cX6_run 6 = .ok (.iconst 1, 1) := by decide +kernel
theorem dX6_run_7 : decode cX6_run 7 = .ok (.bipush 60, 2) := by decide +kernel
theorem dX6_run_9 : decode cX6_run 9 = .ok (.invokestatic 35, 3) := by decide +kernel
theorem dX6_run_12 : decode cX6_run 12 = .ok (.ifCond .ne 9, 3) := by decide +kernel
theorem dX6_run_15 : decode cX6_run 15 = .ok (.aload_n 0, 1) := by decide +kernel
theorem dX6_run_16 : decode cX6_run 16 = .ok (.iconst 1, 1) := by decide +kernel
theorem dX6_run_17 : decode cX6_run 17 = .ok (.invokevirtual 79, 3) := by decide +kernel
theorem dX6_run_20 : decode cX6_run 20 = .ok (.ireturn, 1) := by decide +kernel
theorem dX6_run_21 : decode cX6_run 21 = .ok (.aload_n 0, 1) := by decide +kernel
theorem dX6_run_22 : decode cX6_run 22 = .ok (.getfield 22, 3) := by decide +kernel
theorem dX6_run_25 : decode cX6_run 25 = .ok (.iconst 1, 1) := by decide +kernel
theorem dX6_run_26 : decode cX6_run 26 = .ok (.iaload, 1) := by decide +kernel
theorem dX6_run_27 : decode cX6_run 27 = .ok (.istore_n 2, 1) := by decide +kernel
theorem dX6_run_28 : decode cX6_run 28 = .ok (.iconst 0, 1) := by decide +kernel
theorem dX6_run_29 : decode cX6_run 29 = .ok (.istore_n 3, 1) := by decide +kernel
theorem dX6_run_30 : decode cX6_run 30 = .ok (.iload_n 3, 1) := by decide +kernel
theorem dX6_run_31 : decode cX6_run 31 = .ok (.iload_n 1, 1) := by decide +kernel
theorem dX6_run_32 : decode cX6_run 32 = .ok (.if_icmp .ge 13, 3) := by decide +kernel
theorem dX6_run_35 : decode cX6_run 35 = .ok (.aload_n 0, 1) := by decide +kernel
theorem dX6_run_36 : decode cX6_run 36 = .ok (.invokevirtual 92, 3) := by decide +kernel
theorem dX6_run_39 : decode cX6_run 39 = .ok (.iinc 3 1, 3) := by decide +kernel
theorem dX6_run_42 : decode cX6_run 42 = .ok (.goto (-12), 3) := by decide +kernel
theorem dX6_run_45 : decode cX6_run 45 = .ok (.aload_n 0, 1) := by decide +kernel
theorem dX6_run_46 : decode cX6_run 46 = .ok (.getfield 22, 3) := by decide +kernel
theorem dX6_run_49 : decode cX6_run 49 = .ok (.iconst 1, 1) := by decide +kernel
theorem dX6_run_50 : decode cX6_run 50 = .ok (.iaload, 1) := by decide +kernel
theorem dX6_run_51 : decode cX6_run 51 = .ok (.iload_n 2, 1) := by decide +kernel
theorem dX6_run_52 : decode cX6_run 52 = .ok (.isub, 1) := by decide +kernel
theorem dX6_run_53 : decode cX6_run 53 = .ok (.ireturn, 1) := by decide +kernel
theorem dX6_time_0 : decode cX6_time 0 = .ok (.aload_n 0, 1) := by decide +kernel
theorem dX6_time_1 : decode cX6_time 1 = .ok (.aload_n 0, 1) := by decide +kernel
theorem dX6_time_2 : decode cX6_time 2 = .ok (.getfield 22, 3) := by decide +kernel
theorem dX6_time_5 : decode cX6_time 5 = .ok (.iconst 0, 1) := by decide +kernel
theorem dX6_time_6 : decode cX6_time 6 = .ok (.iaload, 1) := by decide +kernel
theorem dX6_time_7 : decode cX6_time 7 = .ok (.invokevirtual 95, 3) := by decide +kernel
theorem dX6_time_10 : decode cX6_time 10 = .ok (.ireturn, 1) := by decide +kernel
theorem dX6_channels_0 : decode cX6_channels 0 = .ok (.aload_n 0, 1) := by decide +kernel
theorem dX6_channels_1 : decode cX6_channels 1 = .ok (.aload_n 0, 1) := by decide +kernel
theorem dX6_channels_2 : decode cX6_channels 2 = .ok (.getfield 32, 3) := by decide +kernel
theorem dX6_channels_5 : decode cX6_channels 5 = .ok (.invokevirtual 95, 3) := by decide +kernel
theorem dX6_channels_8 : decode cX6_channels 8 = .ok (.ireturn, 1) := by decide +kernel
theorem dX6_fibers_0 : decode cX6_fibers 0 = .ok (.aload_n 0, 1) := by decide +kernel
theorem dX6_fibers_1 : decode cX6_fibers 1 = .ok (.aload_n 0, 1) := by decide +kernel
theorem dX6_fibers_2 : decode cX6_fibers 2 = .ok (.getfield 39, 3) := by decide +kernel
theorem dX6_fibers_5 : decode cX6_fibers 5 = .ok (.invokevirtual 95, 3) := by decide +kernel
theorem dX6_fibers_8 : decode cX6_fibers 8 = .ok (.ireturn, 1) := by decide +kernel
theorem dX6_inState_0 : decode cX6_inState 0 = .ok (.iconst 0, 1) := by decide +kernel
theorem dX6_inState_1 : decode cX6_inState 1 = .ok (.istore_n 2, 1) := by decide +kernel
theorem dX6_inState_2 : decode cX6_inState 2 = .ok (.iconst 0, 1) := by decide +kernel
theorem dX6_inState_3 : decode cX6_inState 3 = .ok (.istore_n 3, 1) := by decide +kernel
theorem dX6_inState_4 : decode cX6_inState 4 = .ok (.iload_n 3, 1) := by decide +kernel
theorem dX6_inState_5 : decode cX6_inState 5 = .ok (.aload_n 0, 1) := by decide +kernel
theorem dX6_inState_6 : decode cX6_inState 6 = .ok (.getfield 39, 3) := by decide +kernel
theorem dX6_inState_9 : decode cX6_inState 9 = .ok (.if_icmp .ge 30, 3) := by decide +kernel
theorem dX6_inState_12 : decode cX6_inState 12 = .ok (.iload_n 2, 1) := by decide +kernel
theorem dX6_inState_13 : decode cX6_inState 13 = .ok (.aload_n 0, 1) := by decide +kernel
theorem dX6_inState_14 : decode cX6_inState 14 = .ok (.getfield 22, 3) := by decide +kernel
theorem dX6_inState_17 : decode cX6_inState 17 = .ok (.bipush 12, 2) := by decide +kernel
theorem dX6_inState_19 : decode cX6_inState 19 = .ok (.iload_n 3, 1) := by decide +kernel
theorem dX6_inState_20 : decode cX6_inState 20 = .ok (.iadd, 1) := by decide +kernel
theorem dX6_inState_21 : decode cX6_inState 21 = .ok (.iaload, 1) := by decide +kernel
theorem dX6_inState_22 : decode cX6_inState 22 = .ok (.iload_n 1, 1) := by decide +kernel
theorem dX6_inState_23 : decode cX6_inState 23 = .ok (.if_icmp .ne 7, 3) := by decide +kernel
theorem dX6_inState_26 : decode cX6_inState 26 = .ok (.iconst 1, 1) := by decide +kernel
theorem dX6_inState_27 : decode cX6_inState 27 = .ok (.goto 4, 3) := by decide +kernel
theorem dX6_inState_30 : decode cX6_inState 30 = .ok (.iconst 0, 1) := by decide +kernel
theorem dX6_inState_31 : decode cX6_inState 31 = .ok (.iadd, 1) := by decide +kernel
theorem dX6_inState_32 : decode cX6_inState 32 = .ok (.istore_n 2, 1) := by decide +kernel
theorem dX6_inState_33 : decode cX6_inState 33 = .ok (.iinc 3 1, 3) := by decide +kernel
theorem dX6_inState_36 : decode cX6_inState 36 = .ok (.goto (-32), 3) := by decide +kernel
theorem dX6_inState_39 : decode cX6_inState 39 = .ok (.iload_n 2, 1) := by decide +kernel
theorem dX6_inState_40 : decode cX6_inState 40 = .ok (.ireturn, 1) := by decide +kernel
theorem dX6_done__0 : decode cX6_done_ 0 = .ok (.aload_n 0, 1) := by decide +kernel
theorem dX6_done__1 : decode cX6_done_ 1 = .ok (.aload_n 0, 1) := by decide +kernel
theorem dX6_done__2 : decode cX6_done_ 2 = .ok (.iconst 5, 1) := by decide +kernel
theorem dX6_done__3 : decode cX6_done_ 3 = .ok (.invokevirtual 98, 3) := by decide +kernel
theorem dX6_done__6 : decode cX6_done_ 6 = .ok (.invokevirtual 95, 3) := by decide +kernel
theorem dX6_done__9 : decode cX6_done_ 9 = .ok (.ireturn, 1) := by decide +kernel
theorem dX6_idleTurns_0 : decode cX6_idleTurns 0 = .ok (.aload_n 0, 1) := by decide +kernel
theorem dX6_idleTurns_1 : decode cX6_idleTurns 1 = .ok (.aload_n 0, 1) := by decide +kernel
theorem dX6_idleTurns_2 : decode cX6_idleTurns 2 = .ok (.getfield 22, 3) := by decide +kernel
theorem dX6_idleTurns_5 : decode cX6_idleTurns 5 = .ok (.iconst 1, 1) := by decide +kernel
theorem dX6_idleTurns_6 : decode cX6_idleTurns 6 = .ok (.iaload, 1) := by decide +kernel
theorem dX6_idleTurns_7 : decode cX6_idleTurns 7 = .ok (.invokevirtual 95, 3) := by decide +kernel
theorem dX6_idleTurns_10 : decode cX6_idleTurns 10 = .ok (.ireturn, 1) := by decide +kernel
theorem dX6_first_0 : decode cX6_first 0 = .ok (.aload_n 0, 1) := by decide +kernel
theorem dX6_first_1 : decode cX6_first 1 = .ok (.getfield 22, 3) := by decide +kernel
theorem dX6_first_4 : decode cX6_first 4 = .ok (.iconst 3, 1) := by decide +kernel
theorem dX6_first_5 : decode cX6_first 5 = .ok (.iaload, 1) := by decide +kernel
theorem dX6_first_6 : decode cX6_first 6 = .ok (.ifCond .ne 7, 3) := by decide +kernel
theorem dX6_first_9 : decode cX6_first 9 = .ok (.iconst (-1), 1) := by decide +kernel
theorem dX6_first_10 : decode cX6_first 10 = .ok (.goto 9, 3) := by decide +kernel
theorem dX6_first_13 : decode cX6_first 13 = .ok (.aload_n 0, 1) := by decide +kernel
theorem dX6_first_14 : decode cX6_first 14 = .ok (.getfield 22, 3) := by decide +kernel
theorem dX6_first_17 : decode cX6_first 17 = .ok (.iconst 4, 1) := by decide +kernel
theorem dX6_first_18 : decode cX6_first 18 = .ok (.iaload, 1) := by decide +kernel
theorem dX6_first_19 : decode cX6_first 19 = .ok (.ireturn, 1) := by decide +kernel
theorem dX6_next_0 : decode cX6_next 0 = .ok (.aload_n 0, 1) := by decide +kernel
theorem dX6_next_1 : decode cX6_next 1 = .ok (.aload_n 0, 1) := by decide +kernel
theorem dX6_next_2 : decode cX6_next 2 = .ok (.invokevirtual 101, 3) := by decide +kernel
theorem dX6_next_5 : decode cX6_next 5 = .ok (.invokevirtual 95, 3) := by decide +kernel
theorem dX6_next_8 : decode cX6_next 8 = .ok (.ireturn, 1) := by decide +kernel
theorem dX6_stuck_0 : decode cX6_stuck 0 = .ok (.aload_n 0, 1) := by decide +kernel
theorem dX6_stuck_1 : decode cX6_stuck 1 = .ok (.getfield 22, 3) := by decide +kernel
theorem dX6_stuck_4 : decode cX6_stuck 4 = .ok (.iconst 3, 1) := by decide +kernel
theorem dX6_stuck_5 : decode cX6_stuck 5 = .ok (.iaload, 1) := by decide +kernel
theorem dX6_stuck_6 : decode cX6_stuck 6 = .ok (.ifCond .ne 27, 3) := by decide +kernel
theorem dX6_stuck_9 : decode cX6_stuck 9 = .ok (.aload_n 0, 1) := by decide +kernel
theorem dX6_stuck_10 : decode cX6_stuck 10 = .ok (.iconst 3, 1) := by decide +kernel
theorem dX6_stuck_11 : decode cX6_stuck 11 = .ok (.invokevirtual 98, 3) := by decide +kernel
theorem dX6_stuck_14 : decode cX6_stuck 14 = .ok (.ifCond .ne 19, 3) := by decide +kernel
theorem dX6_stuck_17 : decode cX6_stuck 17 = .ok (.aload_n 0, 1) := by decide +kernel
theorem dX6_stuck_18 : decode cX6_stuck 18 = .ok (.iconst 5, 1) := by decide +kernel
theorem dX6_stuck_19 : decode cX6_stuck 19 = .ok (.invokevirtual 98, 3) := by decide +kernel
theorem dX6_stuck_22 : decode cX6_stuck 22 = .ok (.aload_n 0, 1) := by decide +kernel
theorem dX6_stuck_23 : decode cX6_stuck 23 = .ok (.getfield 39, 3) := by decide +kernel
theorem dX6_stuck_26 : decode cX6_stuck 26 = .ok (.if_icmp .ge 7, 3) := by decide +kernel
theorem dX6_stuck_29 : decode cX6_stuck 29 = .ok (.iconst 1, 1) := by decide +kernel
theorem dX6_stuck_30 : decode cX6_stuck 30 = .ok (.goto 4, 3) := by decide +kernel
theorem dX6_stuck_33 : decode cX6_stuck 33 = .ok (.iconst 0, 1) := by decide +kernel
theorem dX6_stuck_34 : decode cX6_stuck 34 = .ok (.ireturn, 1) := by decide +kernel
theorem dX6_isStuck_0 : decode cX6_isStuck 0 = .ok (.aload_n 0, 1) := by decide +kernel
theorem dX6_isStuck_1 : decode cX6_isStuck 1 = .ok (.iconst 0, 1) := by decide +kernel
theorem dX6_isStuck_2 : decode cX6_isStuck 2 = .ok (.putfield 28, 3) := by decide +kernel
theorem dX6_isStuck_5 : decode cX6_isStuck 5 = .ok (.aload_n 0, 1) := by decide +kernel
theorem dX6_isStuck_6 : decode cX6_isStuck 6 = .ok (.invokevirtual 105, 3) := by decide +kernel
theorem dX6_isStuck_9 : decode cX6_isStuck 9 = .ok (.ireturn, 1) := by decide +kernel
theorem dX6_heldIn_0 : decode cX6_heldIn 0 = .ok (.aload_n 0, 1) := by decide +kernel
theorem dX6_heldIn_1 : decode cX6_heldIn 1 = .ok (.getfield 22, 3) := by decide +kernel
theorem dX6_heldIn_4 : decode cX6_heldIn 4 = .ok (.sipush 168, 3) := by decide +kernel
theorem dX6_heldIn_7 : decode cX6_heldIn 7 = .ok (.iload_n 1, 1) := by decide +kernel
theorem dX6_heldIn_8 : decode cX6_heldIn 8 = .ok (.iadd, 1) := by decide +kernel
theorem dX6_heldIn_9 : decode cX6_heldIn 9 = .ok (.iaload, 1) := by decide +kernel
theorem dX6_heldIn_10 : decode cX6_heldIn 10 = .ok (.ireturn, 1) := by decide +kernel
theorem dX6_held_0 : decode cX6_held 0 = .ok (.aload_n 0, 1) := by decide +kernel
theorem dX6_held_1 : decode cX6_held 1 = .ok (.iconst 0, 1) := by decide +kernel
theorem dX6_held_2 : decode cX6_held 2 = .ok (.putfield 28, 3) := by decide +kernel
theorem dX6_held_5 : decode cX6_held 5 = .ok (.aload_n 0, 1) := by decide +kernel
theorem dX6_held_6 : decode cX6_held 6 = .ok (.iload_n 1, 1) := by decide +kernel
theorem dX6_held_7 : decode cX6_held 7 = .ok (.invokevirtual 82, 3) := by decide +kernel
theorem dX6_held_10 : decode cX6_held 10 = .ok (.ifCond .eq 11, 3) := by decide +kernel
theorem dX6_held_13 : decode cX6_held 13 = .ok (.aload_n 0, 1) := by decide +kernel
theorem dX6_held_14 : decode cX6_held 14 = .ok (.iload_n 1, 1) := by decide +kernel
theorem dX6_held_15 : decode cX6_held 15 = .ok (.invokevirtual 109, 3) := by decide +kernel
theorem dX6_held_18 : decode cX6_held 18 = .ok (.goto 8, 3) := by decide +kernel
theorem dX6_held_21 : decode cX6_held 21 = .ok (.aload_n 0, 1) := by decide +kernel
theorem dX6_held_22 : decode cX6_held 22 = .ok (.iconst 1, 1) := by decide +kernel
theorem dX6_held_23 : decode cX6_held 23 = .ok (.invokevirtual 79, 3) := by decide +kernel
theorem dX6_held_26 : decode cX6_held 26 = .ok (.ireturn, 1) := by decide +kernel
theorem dX6_valueAt_0 : decode cX6_valueAt 0 = .ok (.aload_n 0, 1) := by decide +kernel
theorem dX6_valueAt_1 : decode cX6_valueAt 1 = .ok (.iconst 0, 1) := by decide +kernel
theorem dX6_valueAt_2 : decode cX6_valueAt 2 = .ok (.putfield 28, 3) := by decide +kernel
theorem dX6_valueAt_5 : decode cX6_valueAt 5 = .ok (.aload_n 0, 1) := by decide +kernel
theorem dX6_valueAt_6 : decode cX6_valueAt 6 = .ok (.iload_n 1, 1) := by decide +kernel
theorem dX6_valueAt_7 : decode cX6_valueAt 7 = .ok (.invokevirtual 82, 3) := by decide +kernel
theorem dX6_valueAt_10 : decode cX6_valueAt 10 = .ok (.ifCond .eq 36, 3) := by decide +kernel
theorem dX6_valueAt_13 : decode cX6_valueAt 13 = .ok (.iload_n 2, 1) := by decide +kernel
theorem dX6_valueAt_14 : decode cX6_valueAt 14 = .ok (.iconst 0, 1) := by decide +kernel
theorem dX6_valueAt_15 : decode cX6_valueAt 15 = .ok (.aload_n 0, 1) := by decide +kernel
theorem dX6_valueAt_16 : decode cX6_valueAt 16 = .ok (.iload_n 1, 1) := by decide +kernel
theorem dX6_valueAt_17 : decode cX6_valueAt 17 = .ok (.invokevirtual 109, 3) := by decide +kernel
theorem dX6_valueAt_20 : decode cX6_valueAt 20 = .ok (.iconst 1, 1) := by decide +kernel
theorem dX6_valueAt_21 : decode cX6_valueAt 21 = .ok (.isub, 1) := by decide +kernel
theorem dX6_valueAt_22 : decode cX6_valueAt 22 = .ok (.invokestatic 35, 3) := by decide +kernel
theorem dX6_valueAt_25 : decode cX6_valueAt 25 = .ok (.ifCond .eq 21, 3) := by decide +kernel
theorem dX6_valueAt_28 : decode cX6_valueAt 28 = .ok (.aload_n 0, 1) := by decide +kernel
theorem dX6_valueAt_29 : decode cX6_valueAt 29 = .ok (.getfield 22, 3) := by decide +kernel
theorem dX6_valueAt_32 : decode cX6_valueAt 32 = .ok (.sipush 172, 3) := by decide +kernel
theorem dX6_valueAt_35 : decode cX6_valueAt 35 = .ok (.bipush 8, 2) := by decide +kernel
theorem dX6_valueAt_37 : decode cX6_valueAt 37 = .ok (.iload_n 1, 1) := by decide +kernel
theorem dX6_valueAt_38 : decode cX6_valueAt 38 = .ok (.imul, 1) := by decide +kernel
theorem dX6_valueAt_39 : decode cX6_valueAt 39 = .ok (.iadd, 1) := by decide +kernel
theorem dX6_valueAt_40 : decode cX6_valueAt 40 = .ok (.iload_n 2, 1) := by decide +kernel
theorem dX6_valueAt_41 : decode cX6_valueAt 41 = .ok (.iadd, 1) := by decide +kernel
theorem dX6_valueAt_42 : decode cX6_valueAt 42 = .ok (.iaload, 1) := by decide +kernel
theorem dX6_valueAt_43 : decode cX6_valueAt 43 = .ok (.goto 8, 3) := by decide +kernel
theorem dX6_valueAt_46 : decode cX6_valueAt 46 = .ok (.aload_n 0, 1) := by decide +kernel
theorem dX6_valueAt_47 : decode cX6_valueAt 47 = .ok (.iconst 1, 1) := by decide +kernel
theorem dX6_valueAt_48 : decode cX6_valueAt 48 = .ok (.invokevirtual 79, 3) := by decide +kernel
theorem dX6_valueAt_51 : decode cX6_valueAt 51 = .ok (.ireturn, 1) := by decide +kernel
theorem dX6_waiting_0 : decode cX6_waiting 0 = .ok (.iconst 0, 1) := by decide +kernel
theorem dX6_waiting_1 : decode cX6_waiting 1 = .ok (.istore_n 3, 1) := by decide +kernel
theorem dX6_waiting_2 : decode cX6_waiting 2 = .ok (.iconst 0, 1) := by decide +kernel
theorem dX6_waiting_3 : decode cX6_waiting 3 = .ok (.istore 4, 2) := by decide +kernel
theorem dX6_waiting_5 : decode cX6_waiting 5 = .ok (.iload 4, 2) := by decide +kernel
theorem dX6_waiting_7 : decode cX6_waiting 7 = .ok (.aload_n 0, 1) := by decide +kernel
theorem dX6_waiting_8 : decode cX6_waiting 8 = .ok (.getfield 39, 3) := by decide +kernel
theorem dX6_waiting_11 : decode cX6_waiting 11 = .ok (.if_icmp .ge 28, 3) := by decide +kernel
theorem dX6_waiting_14 : decode cX6_waiting 14 = .ok (.iload_n 3, 1) := by decide +kernel
theorem dX6_waiting_15 : decode cX6_waiting 15 = .ok (.aload_n 0, 1) := by decide +kernel
theorem dX6_waiting_16 : decode cX6_waiting 16 = .ok (.iload 4, 2) := by decide +kernel
theorem dX6_waiting_18 : decode cX6_waiting 18 = .ok (.iload_n 2, 1) := by decide +kernel
theorem dX6_waiting_19 : decode cX6_waiting 19 = .ok (.iload_n 1, 1) := by decide +kernel
theorem dX6_waiting_20 : decode cX6_waiting 20 = .ok (.invokevirtual 48, 3) := by decide +kernel
theorem dX6_waiting_23 : decode cX6_waiting 23 = .ok (.ifCond .eq 7, 3) := by decide +kernel
theorem dX6_waiting_26 : decode cX6_waiting 26 = .ok (.iconst 1, 1) := by decide +kernel
theorem dX6_waiting_27 : decode cX6_waiting 27 = .ok (.goto 4, 3) := by decide +kernel
theorem dX6_waiting_30 : decode cX6_waiting 30 = .ok (.iconst 0, 1) := by decide +kernel
theorem dX6_waiting_31 : decode cX6_waiting 31 = .ok (.iadd, 1) := by decide +kernel
theorem dX6_waiting_32 : decode cX6_waiting 32 = .ok (.istore_n 3, 1) := by decide +kernel
theorem dX6_waiting_33 : decode cX6_waiting 33 = .ok (.iinc 4 1, 3) := by decide +kernel
theorem dX6_waiting_36 : decode cX6_waiting 36 = .ok (.goto (-31), 3) := by decide +kernel
theorem dX6_waiting_39 : decode cX6_waiting 39 = .ok (.iload_n 3, 1) := by decide +kernel
theorem dX6_waiting_40 : decode cX6_waiting 40 = .ok (.ireturn, 1) := by decide +kernel
theorem dX6_sendersAt_0 : decode cX6_sendersAt 0 = .ok (.aload_n 0, 1) := by decide +kernel
theorem dX6_sendersAt_1 : decode cX6_sendersAt 1 = .ok (.iconst 0, 1) := by decide +kernel
theorem dX6_sendersAt_2 : decode cX6_sendersAt 2 = .ok (.putfield 28, 3) := by decide +kernel
theorem dX6_sendersAt_5 : decode cX6_sendersAt 5 = .ok (.aload_n 0, 1) := by decide +kernel
theorem dX6_sendersAt_6 : decode cX6_sendersAt 6 = .ok (.iload_n 1, 1) := by decide +kernel
theorem dX6_sendersAt_7 : decode cX6_sendersAt 7 = .ok (.invokevirtual 82, 3) := by decide +kernel
theorem dX6_sendersAt_10 : decode cX6_sendersAt 10 = .ok (.ifCond .eq 12, 3) := by decide +kernel
theorem dX6_sendersAt_13 : decode cX6_sendersAt 13 = .ok (.aload_n 0, 1) := by decide +kernel
theorem dX6_sendersAt_14 : decode cX6_sendersAt 14 = .ok (.iload_n 1, 1) := by decide +kernel
theorem dX6_sendersAt_15 : decode cX6_sendersAt 15 = .ok (.iconst 1, 1) := by decide +kernel
theorem dX6_sendersAt_16 : decode cX6_sendersAt 16 = .ok (.invokevirtual 112, 3) := by decide +kernel
theorem dX6_sendersAt_19 : decode cX6_sendersAt 19 = .ok (.goto 8, 3) := by decide +kernel
theorem dX6_sendersAt_22 : decode cX6_sendersAt 22 = .ok (.aload_n 0, 1) := by decide +kernel
theorem dX6_sendersAt_23 : decode cX6_sendersAt 23 = .ok (.iconst 1, 1) := by decide +kernel
theorem dX6_sendersAt_24 : decode cX6_sendersAt 24 = .ok (.invokevirtual 79, 3) := by decide +kernel
theorem dX6_sendersAt_27 : decode cX6_sendersAt 27 = .ok (.ireturn, 1) := by decide +kernel
theorem dX6_takersAt_0 : decode cX6_takersAt 0 = .ok (.aload_n 0, 1) := by decide +kernel
theorem dX6_takersAt_1 : decode cX6_takersAt 1 = .ok (.iconst 0, 1) := by decide +kernel
theorem dX6_takersAt_2 : decode cX6_takersAt 2 = .ok (.putfield 28, 3) := by decide +kernel
theorem dX6_takersAt_5 : decode cX6_takersAt 5 = .ok (.aload_n 0, 1) := by decide +kernel
theorem dX6_takersAt_6 : decode cX6_takersAt 6 = .ok (.iload_n 1, 1) := by decide +kernel
theorem dX6_takersAt_7 : decode cX6_takersAt 7 = .ok (.invokevirtual 82, 3) := by decide +kernel
theorem dX6_takersAt_10 : decode cX6_takersAt 10 = .ok (.ifCond .eq 12, 3) := by decide +kernel
theorem dX6_takersAt_13 : decode cX6_takersAt 13 = .ok (.aload_n 0, 1) := by decide +kernel
theorem dX6_takersAt_14 : decode cX6_takersAt 14 = .ok (.iload_n 1, 1) := by decide +kernel
theorem dX6_takersAt_15 : decode cX6_takersAt 15 = .ok (.iconst 2, 1) := by decide +kernel
theorem dX6_takersAt_16 : decode cX6_takersAt 16 = .ok (.invokevirtual 112, 3) := by decide +kernel
theorem dX6_takersAt_19 : decode cX6_takersAt 19 = .ok (.goto 8, 3) := by decide +kernel
theorem dX6_takersAt_22 : decode cX6_takersAt 22 = .ok (.aload_n 0, 1) := by decide +kernel
theorem dX6_takersAt_23 : decode cX6_takersAt 23 = .ok (.iconst 1, 1) := by decide +kernel
theorem dX6_takersAt_24 : decode cX6_takersAt 24 = .ok (.invokevirtual 79, 3) := by decide +kernel
theorem dX6_takersAt_27 : decode cX6_takersAt 27 = .ok (.ireturn, 1) := by decide +kernel
theorem dX6_ofFiber_0 : decode cX6_ofFiber 0 = .ok (.aload_n 0, 1) := by decide +kernel
theorem dX6_ofFiber_1 : decode cX6_ofFiber 1 = .ok (.iconst 0, 1) := by decide +kernel
theorem dX6_ofFiber_2 : decode cX6_ofFiber 2 = .ok (.putfield 28, 3) := by decide +kernel
theorem dX6_ofFiber_5 : decode cX6_ofFiber 5 = .ok (.aload_n 0, 1) := by decide +kernel
theorem dX6_ofFiber_6 : decode cX6_ofFiber 6 = .ok (.iload_n 1, 1) := by decide +kernel
theorem dX6_ofFiber_7 : decode cX6_ofFiber 7 = .ok (.invokevirtual 85, 3) := by decide +kernel
theorem dX6_ofFiber_10 : decode cX6_ofFiber 10 = .ok (.ifCond .eq 14, 3) := by decide +kernel
theorem dX6_ofFiber_13 : decode cX6_ofFiber 13 = .ok (.aload_n 0, 1) := by decide +kernel
theorem dX6_ofFiber_14 : decode cX6_ofFiber 14 = .ok (.getfield 22, 3) := by decide +kernel
theorem dX6_ofFiber_17 : decode cX6_ofFiber 17 = .ok (.iload_n 2, 1) := by decide +kernel
theorem dX6_ofFiber_18 : decode cX6_ofFiber 18 = .ok (.iload_n 1, 1) := by decide +kernel
theorem dX6_ofFiber_19 : decode cX6_ofFiber 19 = .ok (.iadd, 1) := by decide +kernel
theorem dX6_ofFiber_20 : decode cX6_ofFiber 20 = .ok (.iaload, 1) := by decide +kernel
theorem dX6_ofFiber_21 : decode cX6_ofFiber 21 = .ok (.goto 8, 3) := by decide +kernel
theorem dX6_ofFiber_24 : decode cX6_ofFiber 24 = .ok (.aload_n 0, 1) := by decide +kernel
theorem dX6_ofFiber_25 : decode cX6_ofFiber 25 = .ok (.iconst 1, 1) := by decide +kernel
theorem dX6_ofFiber_26 : decode cX6_ofFiber 26 = .ok (.invokevirtual 79, 3) := by decide +kernel
theorem dX6_ofFiber_29 : decode cX6_ofFiber 29 = .ok (.ireturn, 1) := by decide +kernel
theorem dX6_stateOf_0 : decode cX6_stateOf 0 = .ok (.aload_n 0, 1) := by decide +kernel
theorem dX6_stateOf_1 : decode cX6_stateOf 1 = .ok (.iload_n 1, 1) := by decide +kernel
theorem dX6_stateOf_2 : decode cX6_stateOf 2 = .ok (.bipush 12, 2) := by decide +kernel
theorem dX6_stateOf_4 : decode cX6_stateOf 4 = .ok (.invokevirtual 116, 3) := by decide +kernel
theorem dX6_stateOf_7 : decode cX6_stateOf 7 = .ok (.ireturn, 1) := by decide +kernel
theorem dX6_placeOf_0 : decode cX6_placeOf 0 = .ok (.aload_n 0, 1) := by decide +kernel
theorem dX6_placeOf_1 : decode cX6_placeOf 1 = .ok (.iload_n 1, 1) := by decide +kernel
theorem dX6_placeOf_2 : decode cX6_placeOf 2 = .ok (.bipush 20, 2) := by decide +kernel
theorem dX6_placeOf_4 : decode cX6_placeOf 4 = .ok (.invokevirtual 116, 3) := by decide +kernel
theorem dX6_placeOf_7 : decode cX6_placeOf 7 = .ok (.ireturn, 1) := by decide +kernel
theorem dX6_sumOf_0 : decode cX6_sumOf 0 = .ok (.aload_n 0, 1) := by decide +kernel
theorem dX6_sumOf_1 : decode cX6_sumOf 1 = .ok (.iload_n 1, 1) := by decide +kernel
theorem dX6_sumOf_2 : decode cX6_sumOf 2 = .ok (.bipush 28, 2) := by decide +kernel
theorem dX6_sumOf_4 : decode cX6_sumOf 4 = .ok (.invokevirtual 116, 3) := by decide +kernel
theorem dX6_sumOf_7 : decode cX6_sumOf 7 = .ok (.ireturn, 1) := by decide +kernel
theorem dX6_stepsDone_0 : decode cX6_stepsDone 0 = .ok (.aload_n 0, 1) := by decide +kernel
theorem dX6_stepsDone_1 : decode cX6_stepsDone 1 = .ok (.iload_n 1, 1) := by decide +kernel
theorem dX6_stepsDone_2 : decode cX6_stepsDone 2 = .ok (.bipush 36, 2) := by decide +kernel
theorem dX6_stepsDone_4 : decode cX6_stepsDone 4 = .ok (.invokevirtual 116, 3) := by decide +kernel
theorem dX6_stepsDone_7 : decode cX6_stepsDone 7 = .ok (.ireturn, 1) := by decide +kernel
theorem dX6_turnsOf_0 : decode cX6_turnsOf 0 = .ok (.aload_n 0, 1) := by decide +kernel
theorem dX6_turnsOf_1 : decode cX6_turnsOf 1 = .ok (.iload_n 1, 1) := by decide +kernel
theorem dX6_turnsOf_2 : decode cX6_turnsOf 2 = .ok (.bipush 44, 2) := by decide +kernel
theorem dX6_turnsOf_4 : decode cX6_turnsOf 4 = .ok (.invokevirtual 116, 3) := by decide +kernel
theorem dX6_turnsOf_7 : decode cX6_turnsOf 7 = .ok (.ireturn, 1) := by decide +kernel
theorem dX6_inLine_0 : decode cX6_inLine 0 = .ok (.iconst 0, 1) := by decide +kernel
theorem dX6_inLine_1 : decode cX6_inLine 1 = .ok (.istore_n 2, 1) := by decide +kernel
theorem dX6_inLine_2 : decode cX6_inLine 2 = .ok (.iload_n 2, 1) := by decide +kernel
theorem dX6_inLine_3 : decode cX6_inLine 3 = .ok (.aload_n 0, 1) := by decide +kernel
theorem dX6_inLine_4 : decode cX6_inLine 4 = .ok (.getfield 22, 3) := by decide +kernel
theorem dX6_inLine_7 : decode cX6_inLine 7 = .ok (.iconst 3, 1) := by decide +kernel
theorem dX6_inLine_8 : decode cX6_inLine 8 = .ok (.iaload, 1) := by decide +kernel
theorem dX6_inLine_9 : decode cX6_inLine 9 = .ok (.if_icmp .ge 23, 3) := by decide +kernel
theorem dX6_inLine_12 : decode cX6_inLine 12 = .ok (.aload_n 0, 1) := by decide +kernel
theorem dX6_inLine_13 : decode cX6_inLine 13 = .ok (.getfield 22, 3) := by decide +kernel
theorem dX6_inLine_16 : decode cX6_inLine 16 = .ok (.iconst 4, 1) := by decide +kernel
theorem dX6_inLine_17 : decode cX6_inLine 17 = .ok (.iload_n 2, 1) := by decide +kernel
theorem dX6_inLine_18 : decode cX6_inLine 18 = .ok (.iadd, 1) := by decide +kernel
theorem dX6_inLine_19 : decode cX6_inLine 19 = .ok (.iaload, 1) := by decide +kernel
theorem dX6_inLine_20 : decode cX6_inLine 20 = .ok (.iload_n 1, 1) := by decide +kernel
theorem dX6_inLine_21 : decode cX6_inLine 21 = .ok (.if_icmp .ne 5, 3) := by decide +kernel
theorem dX6_inLine_24 : decode cX6_inLine 24 = .ok (.iload_n 2, 1) := by decide +kernel
theorem dX6_inLine_25 : decode cX6_inLine 25 = .ok (.ireturn, 1) := by decide +kernel
theorem dX6_inLine_26 : decode cX6_inLine 26 = .ok (.iinc 2 1, 3) := by decide +kernel
theorem dX6_inLine_29 : decode cX6_inLine 29 = .ok (.goto (-27), 3) := by decide +kernel
theorem dX6_inLine_32 : decode cX6_inLine 32 = .ok (.iconst (-1), 1) := by decide +kernel
theorem dX6_inLine_33 : decode cX6_inLine 33 = .ok (.ireturn, 1) := by decide +kernel
theorem dX6_placeInLine_0 : decode cX6_placeInLine 0 = .ok (.aload_n 0, 1) := by decide +kernel
theorem dX6_placeInLine_1 : decode cX6_placeInLine 1 = .ok (.iconst 0, 1) := by decide +kernel
theorem dX6_placeInLine_2 : decode cX6_placeInLine 2 = .ok (.putfield 28, 3) := by decide +kernel
theorem dX6_placeInLine_5 : decode cX6_placeInLine 5 = .ok (.aload_n 0, 1) := by decide +kernel
theorem dX6_placeInLine_6 : decode cX6_placeInLine 6 = .ok (.iload_n 1, 1) := by decide +kernel
theorem dX6_placeInLine_7 : decode cX6_placeInLine 7 = .ok (.invokevirtual 85, 3) := by decide +kernel
theorem dX6_placeInLine_10 : decode cX6_placeInLine 10 = .ok (.ifCond .eq 11, 3) := by decide +kernel
theorem dX6_placeInLine_13 : decode cX6_placeInLine 13 = .ok (.aload_n 0, 1) := by decide +kernel
theorem dX6_placeInLine_14 : decode cX6_placeInLine 14 = .ok (.iload_n 1, 1) := by decide +kernel
theorem dX6_placeInLine_15 : decode cX6_placeInLine 15 = .ok (.invokevirtual 119, 3) := by decide +kernel
theorem dX6_placeInLine_18 : decode cX6_placeInLine 18 = .ok (.goto 8, 3) := by decide +kernel
theorem dX6_placeInLine_21 : decode cX6_placeInLine 21 = .ok (.aload_n 0, 1) := by decide +kernel
theorem dX6_placeInLine_22 : decode cX6_placeInLine 22 = .ok (.iconst 1, 1) := by decide +kernel
theorem dX6_placeInLine_23 : decode cX6_placeInLine 23 = .ok (.invokevirtual 79, 3) := by decide +kernel
theorem dX6_placeInLine_26 : decode cX6_placeInLine 26 = .ok (.ireturn, 1) := by decide +kernel
theorem dX6_untilDone_0 : decode cX6_untilDone 0 = .ok (.aload_n 0, 1) := by decide +kernel
theorem dX6_untilDone_1 : decode cX6_untilDone 1 = .ok (.invokevirtual 122, 3) := by decide +kernel
theorem dX6_untilDone_4 : decode cX6_untilDone 4 = .ok (.iconst 0, 1) := by decide +kernel
theorem dX6_untilDone_5 : decode cX6_untilDone 5 = .ok (.istore_n 2, 1) := by decide +kernel
theorem dX6_untilDone_6 : decode cX6_untilDone 6 = .ok (.iload_n 2, 1) := by decide +kernel
theorem dX6_untilDone_7 : decode cX6_untilDone 7 = .ok (.sipush 200, 3) := by decide +kernel
theorem dX6_untilDone_10 : decode cX6_untilDone 10 = .ok (.if_icmp .gt 26, 3) := by decide +kernel
theorem dX6_untilDone_13 : decode cX6_untilDone 13 = .ok (.aload_n 0, 1) := by decide +kernel
theorem dX6_untilDone_14 : decode cX6_untilDone 14 = .ok (.getfield 22, 3) := by decide +kernel
theorem dX6_untilDone_17 : decode cX6_untilDone 17 = .ok (.bipush 12, 2) := by decide +kernel
theorem dX6_untilDone_19 : decode cX6_untilDone 19 = .ok (.iload_n 1, 1) := by decide +kernel
theorem dX6_untilDone_20 : decode cX6_untilDone 20 = .ok (.iadd, 1) := by decide +kernel
theorem dX6_untilDone_21 : decode cX6_untilDone 21 = .ok (.iaload, 1) := by decide +kernel
theorem dX6_untilDone_22 : decode cX6_untilDone 22 = .ok (.iconst 5, 1) := by decide +kernel
theorem dX6_untilDone_23 : decode cX6_untilDone 23 = .ok (.if_icmp .eq 13, 3) := by decide +kernel
theorem dX6_untilDone_26 : decode cX6_untilDone 26 = .ok (.aload_n 0, 1) := by decide +kernel
theorem dX6_untilDone_27 : decode cX6_untilDone 27 = .ok (.invokevirtual 92, 3) := by decide +kernel
theorem dX6_untilDone_30 : decode cX6_untilDone 30 = .ok (.iinc 2 1, 3) := by decide +kernel
theorem dX6_untilDone_33 : decode cX6_untilDone 33 = .ok (.goto (-27), 3) := by decide +kernel
theorem dX6_untilDone_36 : decode cX6_untilDone 36 = .ok (.aload_n 0, 1) := by decide +kernel
theorem dX6_untilDone_37 : decode cX6_untilDone 37 = .ok (.invokevirtual 125, 3) := by decide +kernel
theorem dX6_untilDone_40 : decode cX6_untilDone 40 = .ok (.iload_n 2, 1) := by decide +kernel
theorem dX6_untilDone_41 : decode cX6_untilDone 41 = .ok (.sipush 200, 3) := by decide +kernel
theorem dX6_untilDone_44 : decode cX6_untilDone 44 = .ok (.if_icmp .le 7, 3) := by decide +kernel
theorem dX6_untilDone_47 : decode cX6_untilDone 47 = .ok (.iconst (-1), 1) := by decide +kernel
theorem dX6_untilDone_48 : decode cX6_untilDone 48 = .ok (.goto 4, 3) := by decide +kernel
theorem dX6_untilDone_51 : decode cX6_untilDone 51 = .ok (.iload_n 2, 1) := by decide +kernel
theorem dX6_untilDone_52 : decode cX6_untilDone 52 = .ok (.ireturn, 1) := by decide +kernel
theorem dX6_turnsUntilDone_0 : decode cX6_turnsUntilDone 0 = .ok (.aload_n 0, 1) := by decide +kernel
theorem dX6_turnsUntilDone_1 : decode cX6_turnsUntilDone 1 = .ok (.iconst 0, 1) := by decide +kernel
theorem dX6_turnsUntilDone_2 : decode cX6_turnsUntilDone 2 = .ok (.putfield 28, 3) := by decide +kernel
theorem dX6_turnsUntilDone_5 : decode cX6_turnsUntilDone 5 = .ok (.aload_n 0, 1) := by decide +kernel
theorem dX6_turnsUntilDone_6 : decode cX6_turnsUntilDone 6 = .ok (.iload_n 1, 1) := by decide +kernel
theorem dX6_turnsUntilDone_7 : decode cX6_turnsUntilDone 7 = .ok (.invokevirtual 85, 3) := by decide +kernel
theorem dX6_turnsUntilDone_10 : decode cX6_turnsUntilDone 10 = .ok (.ifCond .eq 11, 3) := by decide +kernel
theorem dX6_turnsUntilDone_13 : decode cX6_turnsUntilDone 13 = .ok (.aload_n 0, 1) := by decide +kernel
theorem dX6_turnsUntilDone_14 : decode cX6_turnsUntilDone 14 = .ok (.iload_n 1, 1) := by decide +kernel
theorem dX6_turnsUntilDone_15 : decode cX6_turnsUntilDone 15 = .ok (.invokevirtual 128, 3) := by decide +kernel
theorem dX6_turnsUntilDone_18 : decode cX6_turnsUntilDone 18 = .ok (.goto 8, 3) := by decide +kernel
theorem dX6_turnsUntilDone_21 : decode cX6_turnsUntilDone 21 = .ok (.aload_n 0, 1) := by decide +kernel
theorem dX6_turnsUntilDone_22 : decode cX6_turnsUntilDone 22 = .ok (.iconst 1, 1) := by decide +kernel
theorem dX6_turnsUntilDone_23 : decode cX6_turnsUntilDone 23 = .ok (.invokevirtual 79, 3) := by decide +kernel
theorem dX6_turnsUntilDone_26 : decode cX6_turnsUntilDone 26 = .ok (.ireturn, 1) := by decide +kernel
theorem dX6_untilStuck_0 : decode cX6_untilStuck 0 = .ok (.aload_n 0, 1) := by decide +kernel
theorem dX6_untilStuck_1 : decode cX6_untilStuck 1 = .ok (.invokevirtual 122, 3) := by decide +kernel
theorem dX6_untilStuck_4 : decode cX6_untilStuck 4 = .ok (.iconst 0, 1) := by decide +kernel
theorem dX6_untilStuck_5 : decode cX6_untilStuck 5 = .ok (.istore_n 1, 1) := by decide +kernel
theorem dX6_untilStuck_6 : decode cX6_untilStuck 6 = .ok (.iload_n 1, 1) := by decide +kernel
theorem dX6_untilStuck_7 : decode cX6_untilStuck 7 = .ok (.sipush 200, 3) := by decide +kernel
theorem dX6_untilStuck_10 : decode cX6_untilStuck 10 = .ok (.if_icmp .gt 20, 3) := by decide +kernel
theorem dX6_untilStuck_13 : decode cX6_untilStuck 13 = .ok (.aload_n 0, 1) := by decide +kernel
theorem dX6_untilStuck_14 : decode cX6_untilStuck 14 = .ok (.invokevirtual 105, 3) := by decide +kernel
theorem dX6_untilStuck_17 : decode cX6_untilStuck 17 = .ok (.ifCond .ne 13, 3) := by decide +kernel
theorem dX6_untilStuck_20 : decode cX6_untilStuck 20 = .ok (.aload_n 0, 1) := by decide +kernel
theorem dX6_untilStuck_21 : decode cX6_untilStuck 21 = .ok (.invokevirtual 92, 3) := by decide +kernel
theorem dX6_untilStuck_24 : decode cX6_untilStuck 24 = .ok (.iinc 1 1, 3) := by decide +kernel
theorem dX6_untilStuck_27 : decode cX6_untilStuck 27 = .ok (.goto (-21), 3) := by decide +kernel
theorem dX6_untilStuck_30 : decode cX6_untilStuck 30 = .ok (.aload_n 0, 1) := by decide +kernel
theorem dX6_untilStuck_31 : decode cX6_untilStuck 31 = .ok (.invokevirtual 125, 3) := by decide +kernel
theorem dX6_untilStuck_34 : decode cX6_untilStuck 34 = .ok (.iload_n 1, 1) := by decide +kernel
theorem dX6_untilStuck_35 : decode cX6_untilStuck 35 = .ok (.sipush 200, 3) := by decide +kernel
theorem dX6_untilStuck_38 : decode cX6_untilStuck 38 = .ok (.if_icmp .le 7, 3) := by decide +kernel
theorem dX6_untilStuck_41 : decode cX6_untilStuck 41 = .ok (.iconst (-1), 1) := by decide +kernel
theorem dX6_untilStuck_42 : decode cX6_untilStuck 42 = .ok (.goto 4, 3) := by decide +kernel
theorem dX6_untilStuck_45 : decode cX6_untilStuck 45 = .ok (.iload_n 1, 1) := by decide +kernel
theorem dX6_untilStuck_46 : decode cX6_untilStuck 46 = .ok (.ireturn, 1) := by decide +kernel
theorem dX6_turnsUntilStuck_0 : decode cX6_turnsUntilStuck 0 = .ok (.aload_n 0, 1) := by decide +kernel
theorem dX6_turnsUntilStuck_1 : decode cX6_turnsUntilStuck 1 = .ok (.aload_n 0, 1) := by decide +kernel
theorem dX6_turnsUntilStuck_2 : decode cX6_turnsUntilStuck 2 = .ok (.invokevirtual 131, 3) := by decide +kernel
theorem dX6_turnsUntilStuck_5 : decode cX6_turnsUntilStuck 5 = .ok (.invokevirtual 95, 3) := by decide +kernel
theorem dX6_turnsUntilStuck_8 : decode cX6_turnsUntilStuck 8 = .ok (.ireturn, 1) := by decide +kernel
theorem dX6_sumIn_0 : decode cX6_sumIn 0 = .ok (.aload_n 0, 1) := by decide +kernel
theorem dX6_sumIn_1 : decode cX6_sumIn 1 = .ok (.iconst 0, 1) := by decide +kernel
theorem dX6_sumIn_2 : decode cX6_sumIn 2 = .ok (.putfield 28, 3) := by decide +kernel
theorem dX6_sumIn_5 : decode cX6_sumIn 5 = .ok (.aload_n 0, 1) := by decide +kernel
theorem dX6_sumIn_6 : decode cX6_sumIn 6 = .ok (.iload_n 1, 1) := by decide +kernel
theorem dX6_sumIn_7 : decode cX6_sumIn 7 = .ok (.invokevirtual 85, 3) := by decide +kernel
theorem dX6_sumIn_10 : decode cX6_sumIn 10 = .ok (.ifCond .ne 9, 3) := by decide +kernel
theorem dX6_sumIn_13 : decode cX6_sumIn 13 = .ok (.aload_n 0, 1) := by decide +kernel
theorem dX6_sumIn_14 : decode cX6_sumIn 14 = .ok (.iconst 1, 1) := by decide +kernel
theorem dX6_sumIn_15 : decode cX6_sumIn 15 = .ok (.invokevirtual 79, 3) := by decide +kernel
theorem dX6_sumIn_18 : decode cX6_sumIn 18 = .ok (.ireturn, 1) := by decide +kernel
theorem dX6_sumIn_19 : decode cX6_sumIn 19 = .ok (.iload_n 2, 1) := by decide +kernel
theorem dX6_sumIn_20 : decode cX6_sumIn 20 = .ok (.iconst 1, 1) := by decide +kernel
theorem dX6_sumIn_21 : decode cX6_sumIn 21 = .ok (.bipush 60, 2) := by decide +kernel
theorem dX6_sumIn_23 : decode cX6_sumIn 23 = .ok (.invokestatic 35, 3) := by decide +kernel
theorem dX6_sumIn_26 : decode cX6_sumIn 26 = .ok (.ifCond .ne 9, 3) := by decide +kernel
theorem dX6_sumIn_29 : decode cX6_sumIn 29 = .ok (.aload_n 0, 1) := by decide +kernel
theorem dX6_sumIn_30 : decode cX6_sumIn 30 = .ok (.iconst 2, 1) := by decide +kernel
theorem dX6_sumIn_31 : decode cX6_sumIn 31 = .ok (.invokevirtual 79, 3) := by decide +kernel
theorem dX6_sumIn_34 : decode cX6_sumIn 34 = .ok (.ireturn, 1) := by decide +kernel
theorem dX6_sumIn_35 : decode cX6_sumIn 35 = .ok (.aload_n 0, 1) := by decide +kernel
theorem dX6_sumIn_36 : decode cX6_sumIn 36 = .ok (.invokevirtual 122, 3) := by decide +kernel
theorem dX6_sumIn_39 : decode cX6_sumIn 39 = .ok (.iconst 0, 1) := by decide +kernel
theorem dX6_sumIn_40 : decode cX6_sumIn 40 = .ok (.istore_n 3, 1) := by decide +kernel
theorem dX6_sumIn_41 : decode cX6_sumIn 41 = .ok (.iload_n 3, 1) := by decide +kernel
theorem dX6_sumIn_42 : decode cX6_sumIn 42 = .ok (.iload_n 2, 1) := by decide +kernel
theorem dX6_sumIn_43 : decode cX6_sumIn 43 = .ok (.if_icmp .ge 13, 3) := by decide +kernel
theorem dX6_sumIn_46 : decode cX6_sumIn 46 = .ok (.aload_n 0, 1) := by decide +kernel
theorem dX6_sumIn_47 : decode cX6_sumIn 47 = .ok (.invokevirtual 92, 3) := by decide +kernel
theorem dX6_sumIn_50 : decode cX6_sumIn 50 = .ok (.iinc 3 1, 3) := by decide +kernel
theorem dX6_sumIn_53 : decode cX6_sumIn 53 = .ok (.goto (-12), 3) := by decide +kernel
theorem dX6_sumIn_56 : decode cX6_sumIn 56 = .ok (.aload_n 0, 1) := by decide +kernel
theorem dX6_sumIn_57 : decode cX6_sumIn 57 = .ok (.getfield 22, 3) := by decide +kernel
theorem dX6_sumIn_60 : decode cX6_sumIn 60 = .ok (.bipush 28, 2) := by decide +kernel
theorem dX6_sumIn_62 : decode cX6_sumIn 62 = .ok (.iload_n 1, 1) := by decide +kernel
theorem dX6_sumIn_63 : decode cX6_sumIn 63 = .ok (.iadd, 1) := by decide +kernel
theorem dX6_sumIn_64 : decode cX6_sumIn 64 = .ok (.iaload, 1) := by decide +kernel
theorem dX6_sumIn_65 : decode cX6_sumIn 65 = .ok (.istore_n 3, 1) := by decide +kernel
theorem dX6_sumIn_66 : decode cX6_sumIn 66 = .ok (.aload_n 0, 1) := by decide +kernel
theorem dX6_sumIn_67 : decode cX6_sumIn 67 = .ok (.invokevirtual 125, 3) := by decide +kernel
theorem dX6_sumIn_70 : decode cX6_sumIn 70 = .ok (.iload_n 3, 1) := by decide +kernel
theorem dX6_sumIn_71 : decode cX6_sumIn 71 = .ok (.ireturn, 1) := by decide +kernel
theorem dX6_roomFor_0 : decode cX6_roomFor 0 = .ok (.aload_n 0, 1) := by decide +kernel
theorem dX6_roomFor_1 : decode cX6_roomFor 1 = .ok (.invokevirtual 122, 3) := by decide +kernel
theorem dX6_roomFor_4 : decode cX6_roomFor 4 = .ok (.iconst (-1), 1) := by decide +kernel
theorem dX6_roomFor_5 : decode cX6_roomFor 5 = .ok (.istore_n 2, 1) := by decide +kernel
theorem dX6_roomFor_6 : decode cX6_roomFor 6 = .ok (.aload_n 0, 1) := by decide +kernel
theorem dX6_roomFor_7 : decode cX6_roomFor 7 = .ok (.getfield 25, 3) := by decide +kernel
theorem dX6_roomFor_10 : decode cX6_roomFor 10 = .ok (.sipush 164, 3) := by decide +kernel
theorem dX6_roomFor_13 : decode cX6_roomFor 13 = .ok (.iload_n 1, 1) := by decide +kernel
theorem dX6_roomFor_14 : decode cX6_roomFor 14 = .ok (.iadd, 1) := by decide +kernel
theorem dX6_roomFor_15 : decode cX6_roomFor 15 = .ok (.iaload, 1) := by decide +kernel
theorem dX6_roomFor_16 : decode cX6_roomFor 16 = .ok (.istore_n 3, 1) := by decide +kernel
theorem dX6_roomFor_17 : decode cX6_roomFor 17 = .ok (.iload_n 3, 1) := by decide +kernel
theorem dX6_roomFor_18 : decode cX6_roomFor 18 = .ok (.bipush 8, 2) := by decide +kernel
theorem dX6_roomFor_20 : decode cX6_roomFor 20 = .ok (.if_icmp .gt 75, 3) := by decide +kernel
theorem dX6_roomFor_23 : decode cX6_roomFor 23 = .ok (.iload_n 2, 1) := by decide +kernel
theorem dX6_roomFor_24 : decode cX6_roomFor 24 = .ok (.iconst (-1), 1) := by decide +kernel
theorem dX6_roomFor_25 : decode cX6_roomFor 25 = .ok (.if_icmp .ne 70, 3) := by decide +kernel
theorem dX6_roomFor_28 : decode cX6_roomFor 28 = .ok (.aload_n 0, 1) := by decide +kernel
theorem dX6_roomFor_29 : decode cX6_roomFor 29 = .ok (.getfield 22, 3) := by decide +kernel
theorem dX6_roomFor_32 : decode cX6_roomFor 32 = .ok (.sipush 164, 3) := by decide +kernel
theorem dX6_roomFor_35 : decode cX6_roomFor 35 = .ok (.iload_n 1, 1) := by decide +kernel
theorem dX6_roomFor_36 : decode cX6_roomFor 36 = .ok (.iadd, 1) := by decide +kernel
theorem dX6_roomFor_37 : decode cX6_roomFor 37 = .ok (.iload_n 3, 1) := by decide +kernel
theorem dX6_roomFor_38 : decode cX6_roomFor 38 = .ok (.iastore, 1) := by decide +kernel
theorem dX6_roomFor_39 : decode cX6_roomFor 39 = .ok (.iconst 0, 1) := by decide +kernel
theorem dX6_roomFor_40 : decode cX6_roomFor 40 = .ok (.istore 4, 2) := by decide +kernel
theorem dX6_roomFor_42 : decode cX6_roomFor 42 = .ok (.iload 4, 2) := by decide +kernel
theorem dX6_roomFor_44 : decode cX6_roomFor 44 = .ok (.bipush 100, 2) := by decide +kernel
theorem dX6_roomFor_46 : decode cX6_roomFor 46 = .ok (.if_icmp .ge 25, 3) := by decide +kernel
theorem dX6_roomFor_49 : decode cX6_roomFor 49 = .ok (.aload_n 0, 1) := by decide +kernel
theorem dX6_roomFor_50 : decode cX6_roomFor 50 = .ok (.iconst 5, 1) := by decide +kernel
theorem dX6_roomFor_51 : decode cX6_roomFor 51 = .ok (.invokevirtual 98, 3) := by decide +kernel
theorem dX6_roomFor_54 : decode cX6_roomFor 54 = .ok (.aload_n 0, 1) := by decide +kernel
theorem dX6_roomFor_55 : decode cX6_roomFor 55 = .ok (.getfield 39, 3) := by decide +kernel
theorem dX6_roomFor_58 : decode cX6_roomFor 58 = .ok (.if_icmp .ge 13, 3) := by decide +kernel
theorem dX6_roomFor_61 : decode cX6_roomFor 61 = .ok (.aload_n 0, 1) := by decide +kernel
theorem dX6_roomFor_62 : decode cX6_roomFor 62 = .ok (.invokevirtual 92, 3) := by decide +kernel
theorem dX6_roomFor_65 : decode cX6_roomFor 65 = .ok (.iinc 4 1, 3) := by decide +kernel
theorem dX6_roomFor_68 : decode cX6_roomFor 68 = .ok (.goto (-26), 3) := by decide +kernel
theorem dX6_roomFor_71 : decode cX6_roomFor 71 = .ok (.aload_n 0, 1) := by decide +kernel
theorem dX6_roomFor_72 : decode cX6_roomFor 72 = .ok (.iconst 5, 1) := by decide +kernel
theorem dX6_roomFor_73 : decode cX6_roomFor 73 = .ok (.invokevirtual 98, 3) := by decide +kernel
theorem dX6_roomFor_76 : decode cX6_roomFor 76 = .ok (.aload_n 0, 1) := by decide +kernel
theorem dX6_roomFor_77 : decode cX6_roomFor 77 = .ok (.getfield 39, 3) := by decide +kernel
theorem dX6_roomFor_80 : decode cX6_roomFor 80 = .ok (.if_icmp .ne 5, 3) := by decide +kernel
theorem dX6_roomFor_83 : decode cX6_roomFor 83 = .ok (.iload_n 3, 1) := by decide +kernel
theorem dX6_roomFor_84 : decode cX6_roomFor 84 = .ok (.istore_n 2, 1) := by decide +kernel
theorem dX6_roomFor_85 : decode cX6_roomFor 85 = .ok (.aload_n 0, 1) := by decide +kernel
theorem dX6_roomFor_86 : decode cX6_roomFor 86 = .ok (.invokevirtual 125, 3) := by decide +kernel
theorem dX6_roomFor_89 : decode cX6_roomFor 89 = .ok (.iinc 3 1, 3) := by decide +kernel
theorem dX6_roomFor_92 : decode cX6_roomFor 92 = .ok (.goto (-75), 3) := by decide +kernel
theorem dX6_roomFor_95 : decode cX6_roomFor 95 = .ok (.iload_n 2, 1) := by decide +kernel
theorem dX6_roomFor_96 : decode cX6_roomFor 96 = .ok (.ireturn, 1) := by decide +kernel
theorem dX6_placesWanted_0 : decode cX6_placesWanted 0 = .ok (.aload_n 0, 1) := by decide +kernel
theorem dX6_placesWanted_1 : decode cX6_placesWanted 1 = .ok (.iconst 0, 1) := by decide +kernel
theorem dX6_placesWanted_2 : decode cX6_placesWanted 2 = .ok (.putfield 28, 3) := by decide +kernel
theorem dX6_placesWanted_5 : decode cX6_placesWanted 5 = .ok (.aload_n 0, 1) := by decide +kernel
theorem dX6_placesWanted_6 : decode cX6_placesWanted 6 = .ok (.iload_n 1, 1) := by decide +kernel
theorem dX6_placesWanted_7 : decode cX6_placesWanted 7 = .ok (.invokevirtual 82, 3) := by decide +kernel
theorem dX6_placesWanted_10 : decode cX6_placesWanted 10 = .ok (.ifCond .eq 11, 3) := by decide +kernel
theorem dX6_placesWanted_13 : decode cX6_placesWanted 13 = .ok (.aload_n 0, 1) := by decide +kernel
theorem dX6_placesWanted_14 : decode cX6_placesWanted 14 = .ok (.iload_n 1, 1) := by decide +kernel
theorem dX6_placesWanted_15 : decode cX6_placesWanted 15 = .ok (.invokevirtual 134, 3) := by decide +kernel
theorem dX6_placesWanted_18 : decode cX6_placesWanted 18 = .ok (.goto 8, 3) := by decide +kernel
theorem dX6_placesWanted_21 : decode cX6_placesWanted 21 = .ok (.aload_n 0, 1) := by decide +kernel
theorem dX6_placesWanted_22 : decode cX6_placesWanted 22 = .ok (.iconst 1, 1) := by decide +kernel
theorem dX6_placesWanted_23 : decode cX6_placesWanted 23 = .ok (.invokevirtual 79, 3) := by decide +kernel
theorem dX6_placesWanted_26 : decode cX6_placesWanted 26 = .ok (.ireturn, 1) := by decide +kernel
theorem dX6_meanTurns_0 : decode cX6_meanTurns 0 = .ok (.aload_n 0, 1) := by decide +kernel
theorem dX6_meanTurns_1 : decode cX6_meanTurns 1 = .ok (.iconst 0, 1) := by decide +kernel
theorem dX6_meanTurns_2 : decode cX6_meanTurns 2 = .ok (.putfield 28, 3) := by decide +kernel
theorem dX6_meanTurns_5 : decode cX6_meanTurns 5 = .ok (.iconst 0, 1) := by decide +kernel
theorem dX6_meanTurns_6 : decode cX6_meanTurns 6 = .ok (.istore_n 1, 1) := by decide +kernel
theorem dX6_meanTurns_7 : decode cX6_meanTurns 7 = .ok (.iconst 0, 1) := by decide +kernel
theorem dX6_meanTurns_8 : decode cX6_meanTurns 8 = .ok (.istore_n 2, 1) := by decide +kernel
theorem dX6_meanTurns_9 : decode cX6_meanTurns 9 = .ok (.iload_n 2, 1) := by decide +kernel
theorem dX6_meanTurns_10 : decode cX6_meanTurns 10 = .ok (.aload_n 0, 1) := by decide +kernel
theorem dX6_meanTurns_11 : decode cX6_meanTurns 11 = .ok (.getfield 39, 3) := by decide +kernel
theorem dX6_meanTurns_14 : decode cX6_meanTurns 14 = .ok (.if_icmp .ge 21, 3) := by decide +kernel
theorem dX6_meanTurns_17 : decode cX6_meanTurns 17 = .ok (.iload_n 1, 1) := by decide +kernel
theorem dX6_meanTurns_18 : decode cX6_meanTurns 18 = .ok (.aload_n 0, 1) := by decide +kernel
theorem dX6_meanTurns_19 : decode cX6_meanTurns 19 = .ok (.getfield 22, 3) := by decide +kernel
theorem dX6_meanTurns_22 : decode cX6_meanTurns 22 = .ok (.bipush 44, 2) := by decide +kernel
theorem dX6_meanTurns_24 : decode cX6_meanTurns 24 = .ok (.iload_n 2, 1) := by decide +kernel
theorem dX6_meanTurns_25 : decode cX6_meanTurns 25 = .ok (.iadd, 1) := by decide +kernel
theorem dX6_meanTurns_26 : decode cX6_meanTurns 26 = .ok (.iaload, 1) := by decide +kernel
theorem dX6_meanTurns_27 : decode cX6_meanTurns 27 = .ok (.iadd, 1) := by decide +kernel
theorem dX6_meanTurns_28 : decode cX6_meanTurns 28 = .ok (.istore_n 1, 1) := by decide +kernel
theorem dX6_meanTurns_29 : decode cX6_meanTurns 29 = .ok (.iinc 2 1, 3) := by decide +kernel
theorem dX6_meanTurns_32 : decode cX6_meanTurns 32 = .ok (.goto (-23), 3) := by decide +kernel
theorem dX6_meanTurns_35 : decode cX6_meanTurns 35 = .ok (.aload_n 0, 1) := by decide +kernel
theorem dX6_meanTurns_36 : decode cX6_meanTurns 36 = .ok (.getfield 39, 3) := by decide +kernel
theorem dX6_meanTurns_39 : decode cX6_meanTurns 39 = .ok (.ifCond .ne 7, 3) := by decide +kernel
theorem dX6_meanTurns_42 : decode cX6_meanTurns 42 = .ok (.dconst 0, 1) := by decide +kernel
theorem dX6_meanTurns_43 : decode cX6_meanTurns 43 = .ok (.goto 11, 3) := by decide +kernel
theorem dX6_meanTurns_46 : decode cX6_meanTurns 46 = .ok (.iload_n 1, 1) := by decide +kernel
theorem dX6_meanTurns_47 : decode cX6_meanTurns 47 = .ok (.i2d, 1) := by decide +kernel
theorem dX6_meanTurns_48 : decode cX6_meanTurns 48 = .ok (.aload_n 0, 1) := by decide +kernel
theorem dX6_meanTurns_49 : decode cX6_meanTurns 49 = .ok (.getfield 39, 3) := by decide +kernel
theorem dX6_meanTurns_52 : decode cX6_meanTurns 52 = .ok (.i2d, 1) := by decide +kernel
theorem dX6_meanTurns_53 : decode cX6_meanTurns 53 = .ok (.ddiv, 1) := by decide +kernel
theorem dX6_meanTurns_54 : decode cX6_meanTurns 54 = .ok (.dreturn, 1) := by decide +kernel
theorem dX6_digest_0 : decode cX6_digest 0 = .ok (.aload_n 0, 1) := by decide +kernel
theorem dX6_digest_1 : decode cX6_digest 1 = .ok (.iconst 0, 1) := by decide +kernel
theorem dX6_digest_2 : decode cX6_digest 2 = .ok (.putfield 28, 3) := by decide +kernel
theorem dX6_digest_5 : decode cX6_digest 5 = .ok (.bipush 8, 2) := by decide +kernel
theorem dX6_digest_7 : decode cX6_digest 7 = .ok (.newarray .int, 2) := by decide +kernel
theorem dX6_digest_9 : decode cX6_digest 9 = .ok (.dup, 1) := by decide +kernel
theorem dX6_digest_10 : decode cX6_digest 10 = .ok (.iconst 0, 1) := by decide +kernel
theorem dX6_digest_11 : decode cX6_digest 11 = .ok (.aload_n 0, 1) := by decide +kernel
theorem dX6_digest_12 : decode cX6_digest 12 = .ok (.getfield 22, 3) := by decide +kernel
theorem dX6_digest_15 : decode cX6_digest 15 = .ok (.iconst 0, 1) := by decide +kernel
theorem dX6_digest_16 : decode cX6_digest 16 = .ok (.iaload, 1) := by decide +kernel
theorem dX6_digest_17 : decode cX6_digest 17 = .ok (.iastore, 1) := by decide +kernel
theorem dX6_digest_18 : decode cX6_digest 18 = .ok (.dup, 1) := by decide +kernel
theorem dX6_digest_19 : decode cX6_digest 19 = .ok (.iconst 1, 1) := by decide +kernel
theorem dX6_digest_20 : decode cX6_digest 20 = .ok (.aload_n 0, 1) := by decide +kernel
theorem dX6_digest_21 : decode cX6_digest 21 = .ok (.getfield 32, 3) := by decide +kernel
theorem dX6_digest_24 : decode cX6_digest 24 = .ok (.iastore, 1) := by decide +kernel
theorem dX6_digest_25 : decode cX6_digest 25 = .ok (.dup, 1) := by decide +kernel
theorem dX6_digest_26 : decode cX6_digest 26 = .ok (.iconst 2, 1) := by decide +kernel
theorem dX6_digest_27 : decode cX6_digest 27 = .ok (.aload_n 0, 1) := by decide +kernel
theorem dX6_digest_28 : decode cX6_digest 28 = .ok (.getfield 39, 3) := by decide +kernel
theorem dX6_digest_31 : decode cX6_digest 31 = .ok (.iastore, 1) := by decide +kernel
theorem dX6_digest_32 : decode cX6_digest 32 = .ok (.dup, 1) := by decide +kernel
theorem dX6_digest_33 : decode cX6_digest 33 = .ok (.iconst 3, 1) := by decide +kernel
theorem dX6_digest_34 : decode cX6_digest 34 = .ok (.aload_n 0, 1) := by decide +kernel
theorem dX6_digest_35 : decode cX6_digest 35 = .ok (.iconst 5, 1) := by decide +kernel
theorem dX6_digest_36 : decode cX6_digest 36 = .ok (.invokevirtual 98, 3) := by decide +kernel
theorem dX6_digest_39 : decode cX6_digest 39 = .ok (.iastore, 1) := by decide +kernel
theorem dX6_digest_40 : decode cX6_digest 40 = .ok (.dup, 1) := by decide +kernel
theorem dX6_digest_41 : decode cX6_digest 41 = .ok (.iconst 4, 1) := by decide +kernel
theorem dX6_digest_42 : decode cX6_digest 42 = .ok (.aload_n 0, 1) := by decide +kernel
theorem dX6_digest_43 : decode cX6_digest 43 = .ok (.getfield 22, 3) := by decide +kernel
theorem dX6_digest_46 : decode cX6_digest 46 = .ok (.iconst 1, 1) := by decide +kernel
theorem dX6_digest_47 : decode cX6_digest 47 = .ok (.iaload, 1) := by decide +kernel
theorem dX6_digest_48 : decode cX6_digest 48 = .ok (.iastore, 1) := by decide +kernel
theorem dX6_digest_49 : decode cX6_digest 49 = .ok (.dup, 1) := by decide +kernel
theorem dX6_digest_50 : decode cX6_digest 50 = .ok (.iconst 5, 1) := by decide +kernel
theorem dX6_digest_51 : decode cX6_digest 51 = .ok (.aload_n 0, 1) := by decide +kernel
theorem dX6_digest_52 : decode cX6_digest 52 = .ok (.invokevirtual 101, 3) := by decide +kernel
theorem dX6_digest_55 : decode cX6_digest 55 = .ok (.iastore, 1) := by decide +kernel
theorem dX6_digest_56 : decode cX6_digest 56 = .ok (.dup, 1) := by decide +kernel
theorem dX6_digest_57 : decode cX6_digest 57 = .ok (.bipush 6, 2) := by decide +kernel
theorem dX6_digest_59 : decode cX6_digest 59 = .ok (.aload_n 0, 1) := by decide +kernel
theorem dX6_digest_60 : decode cX6_digest 60 = .ok (.invokevirtual 105, 3) := by decide +kernel
theorem dX6_digest_63 : decode cX6_digest 63 = .ok (.ifCond .eq 7, 3) := by decide +kernel
theorem dX6_digest_66 : decode cX6_digest 66 = .ok (.iconst 1, 1) := by decide +kernel
theorem dX6_digest_67 : decode cX6_digest 67 = .ok (.goto 4, 3) := by decide +kernel
theorem dX6_digest_70 : decode cX6_digest 70 = .ok (.iconst 0, 1) := by decide +kernel
theorem dX6_digest_71 : decode cX6_digest 71 = .ok (.iastore, 1) := by decide +kernel
theorem dX6_digest_72 : decode cX6_digest 72 = .ok (.dup, 1) := by decide +kernel
theorem dX6_digest_73 : decode cX6_digest 73 = .ok (.bipush 7, 2) := by decide +kernel
theorem dX6_digest_75 : decode cX6_digest 75 = .ok (.aload_n 0, 1) := by decide +kernel
theorem dX6_digest_76 : decode cX6_digest 76 = .ok (.invokevirtual 131, 3) := by decide +kernel
theorem dX6_digest_79 : decode cX6_digest 79 = .ok (.iastore, 1) := by decide +kernel
theorem dX6_digest_80 : decode cX6_digest 80 = .ok (.astore_n 1, 1) := by decide +kernel
theorem dX6_digest_81 : decode cX6_digest 81 = .ok (.ldc2_w 137, 3) := by decide +kernel
theorem dX6_digest_84 : decode cX6_digest 84 = .ok (.lstore_n 2, 1) := by decide +kernel
theorem dX6_digest_85 : decode cX6_digest 85 = .ok (.aload_n 1, 1) := by decide +kernel
theorem dX6_digest_86 : decode cX6_digest 86 = .ok (.astore 4, 2) := by decide +kernel
theorem dX6_digest_88 : decode cX6_digest 88 = .ok (.aload 4, 2) := by decide +kernel
theorem dX6_digest_90 : decode cX6_digest 90 = .ok (.arraylength, 1) := by decide +kernel
theorem dX6_digest_91 : decode cX6_digest 91 = .ok (.istore 5, 2) := by decide +kernel
theorem dX6_digest_93 : decode cX6_digest 93 = .ok (.iconst 0, 1) := by decide +kernel
theorem dX6_digest_94 : decode cX6_digest 94 = .ok (.istore 6, 2) := by decide +kernel
theorem dX6_digest_96 : decode cX6_digest 96 = .ok (.iload 6, 2) := by decide +kernel
theorem dX6_digest_98 : decode cX6_digest 98 = .ok (.iload 5, 2) := by decide +kernel
theorem dX6_digest_100 : decode cX6_digest 100 = .ok (.if_icmp .ge 26, 3) := by decide +kernel
theorem dX6_digest_103 : decode cX6_digest 103 = .ok (.aload 4, 2) := by decide +kernel
theorem dX6_digest_105 : decode cX6_digest 105 = .ok (.iload 6, 2) := by decide +kernel
theorem dX6_digest_107 : decode cX6_digest 107 = .ok (.iaload, 1) := by decide +kernel
theorem dX6_digest_108 : decode cX6_digest 108 = .ok (.istore 7, 2) := by decide +kernel
theorem dX6_digest_110 : decode cX6_digest 110 = .ok (.lload_n 2, 1) := by decide +kernel
theorem dX6_digest_111 : decode cX6_digest 111 = .ok (.ldc2_w 139, 3) := by decide +kernel
theorem dX6_digest_114 : decode cX6_digest 114 = .ok (.lmul, 1) := by decide +kernel
theorem dX6_digest_115 : decode cX6_digest 115 = .ok (.iload 7, 2) := by decide +kernel
theorem dX6_digest_117 : decode cX6_digest 117 = .ok (.i2l, 1) := by decide +kernel
theorem dX6_digest_118 : decode cX6_digest 118 = .ok (.ladd, 1) := by decide +kernel
theorem dX6_digest_119 : decode cX6_digest 119 = .ok (.lstore_n 2, 1) := by decide +kernel
theorem dX6_digest_120 : decode cX6_digest 120 = .ok (.iinc 6 1, 3) := by decide +kernel
theorem dX6_digest_123 : decode cX6_digest 123 = .ok (.goto (-27), 3) := by decide +kernel
theorem dX6_digest_126 : decode cX6_digest 126 = .ok (.iconst 0, 1) := by decide +kernel
theorem dX6_digest_127 : decode cX6_digest 127 = .ok (.istore 4, 2) := by decide +kernel
theorem dX6_digest_129 : decode cX6_digest 129 = .ok (.iload 4, 2) := by decide +kernel
theorem dX6_digest_131 : decode cX6_digest 131 = .ok (.aload_n 0, 1) := by decide +kernel
theorem dX6_digest_132 : decode cX6_digest 132 = .ok (.getfield 32, 3) := by decide +kernel
theorem dX6_digest_135 : decode cX6_digest 135 = .ok (.if_icmp .ge 108, 3) := by decide +kernel
theorem dX6_digest_138 : decode cX6_digest 138 = .ok (.lload_n 2, 1) := by decide +kernel
theorem dX6_digest_139 : decode cX6_digest 139 = .ok (.ldc2_w 139, 3) := by decide +kernel
theorem dX6_digest_142 : decode cX6_digest 142 = .ok (.lmul, 1) := by decide +kernel
theorem dX6_digest_143 : decode cX6_digest 143 = .ok (.aload_n 0, 1) := by decide +kernel
theorem dX6_digest_144 : decode cX6_digest 144 = .ok (.iload 4, 2) := by decide +kernel
theorem dX6_digest_146 : decode cX6_digest 146 = .ok (.invokevirtual 109, 3) := by decide +kernel
theorem dX6_digest_149 : decode cX6_digest 149 = .ok (.i2l, 1) := by decide +kernel
theorem dX6_digest_150 : decode cX6_digest 150 = .ok (.ladd, 1) := by decide +kernel
theorem dX6_digest_151 : decode cX6_digest 151 = .ok (.lstore_n 2, 1) := by decide +kernel
theorem dX6_digest_152 : decode cX6_digest 152 = .ok (.iconst 0, 1) := by decide +kernel
theorem dX6_digest_153 : decode cX6_digest 153 = .ok (.istore 5, 2) := by decide +kernel
theorem dX6_digest_155 : decode cX6_digest 155 = .ok (.iload 5, 2) := by decide +kernel
theorem dX6_digest_157 : decode cX6_digest 157 = .ok (.aload_n 0, 1) := by decide +kernel
theorem dX6_digest_158 : decode cX6_digest 158 = .ok (.iload 4, 2) := by decide +kernel
theorem dX6_digest_160 : decode cX6_digest 160 = .ok (.invokevirtual 109, 3) := by decide +kernel
theorem dX6_digest_163 : decode cX6_digest 163 = .ok (.if_icmp .ge 34, 3) := by decide +kernel
theorem dX6_digest_166 : decode cX6_digest 166 = .ok (.lload_n 2, 1) := by decide +kernel
theorem dX6_digest_167 : decode cX6_digest 167 = .ok (.ldc2_w 139, 3) := by decide +kernel
theorem dX6_digest_170 : decode cX6_digest 170 = .ok (.lmul, 1) := by decide +kernel
theorem dX6_digest_171 : decode cX6_digest 171 = .ok (.aload_n 0, 1) := by decide +kernel
theorem dX6_digest_172 : decode cX6_digest 172 = .ok (.getfield 22, 3) := by decide +kernel
theorem dX6_digest_175 : decode cX6_digest 175 = .ok (.sipush 172, 3) := by decide +kernel
theorem dX6_digest_178 : decode cX6_digest 178 = .ok (.bipush 8, 2) := by decide +kernel
theorem dX6_digest_180 : decode cX6_digest 180 = .ok (.iload 4, 2) := by decide +kernel
theorem dX6_digest_182 : decode cX6_digest 182 = .ok (.imul, 1) := by decide +kernel
theorem dX6_digest_183 : decode cX6_digest 183 = .ok (.iadd, 1) := by decide +kernel
theorem dX6_digest_184 : decode cX6_digest 184 = .ok (.iload 5, 2) := by decide +kernel
theorem dX6_digest_186 : decode cX6_digest 186 = .ok (.iadd, 1) := by decide +kernel
theorem dX6_digest_187 : decode cX6_digest 187 = .ok (.iaload, 1) := by decide +kernel
theorem dX6_digest_188 : decode cX6_digest 188 = .ok (.i2l, 1) := by decide +kernel
theorem dX6_digest_189 : decode cX6_digest 189 = .ok (.ladd, 1) := by decide +kernel
theorem dX6_digest_190 : decode cX6_digest 190 = .ok (.lstore_n 2, 1) := by decide +kernel
theorem dX6_digest_191 : decode cX6_digest 191 = .ok (.iinc 5 1, 3) := by decide +kernel
theorem dX6_digest_194 : decode cX6_digest 194 = .ok (.goto (-39), 3) := by decide +kernel
theorem dX6_digest_197 : decode cX6_digest 197 = .ok (.lload_n 2, 1) := by decide +kernel
theorem dX6_digest_198 : decode cX6_digest 198 = .ok (.ldc2_w 139, 3) := by decide +kernel
theorem dX6_digest_201 : decode cX6_digest 201 = .ok (.lmul, 1) := by decide +kernel
theorem dX6_digest_202 : decode cX6_digest 202 = .ok (.aload_n 0, 1) := by decide +kernel
theorem dX6_digest_203 : decode cX6_digest 203 = .ok (.iload 4, 2) := by decide +kernel
theorem dX6_digest_205 : decode cX6_digest 205 = .ok (.iconst 1, 1) := by decide +kernel
theorem dX6_digest_206 : decode cX6_digest 206 = .ok (.invokevirtual 112, 3) := by decide +kernel
theorem dX6_digest_209 : decode cX6_digest 209 = .ok (.i2l, 1) := by decide +kernel
theorem dX6_digest_210 : decode cX6_digest 210 = .ok (.ladd, 1) := by decide +kernel
theorem dX6_digest_211 : decode cX6_digest 211 = .ok (.ldc2_w 139, 3) := by decide +kernel
theorem dX6_digest_214 : decode cX6_digest 214 = .ok (.lmul, 1) := by decide +kernel
theorem dX6_digest_215 : decode cX6_digest 215 = .ok (.aload_n 0, 1) := by decide +kernel
theorem dX6_digest_216 : decode cX6_digest 216 = .ok (.iload 4, 2) := by decide +kernel
theorem dX6_digest_218 : decode cX6_digest 218 = .ok (.iconst 2, 1) := by decide +kernel
theorem dX6_digest_219 : decode cX6_digest 219 = .ok (.invokevirtual 112, 3) := by decide +kernel
theorem dX6_digest_222 : decode cX6_digest 222 = .ok (.i2l, 1) := by decide +kernel
theorem dX6_digest_223 : decode cX6_digest 223 = .ok (.ladd, 1) := by decide +kernel
theorem dX6_digest_224 : decode cX6_digest 224 = .ok (.ldc2_w 139, 3) := by decide +kernel
theorem dX6_digest_227 : decode cX6_digest 227 = .ok (.lmul, 1) := by decide +kernel
theorem dX6_digest_228 : decode cX6_digest 228 = .ok (.aload_n 0, 1) := by decide +kernel
theorem dX6_digest_229 : decode cX6_digest 229 = .ok (.iload 4, 2) := by decide +kernel
theorem dX6_digest_231 : decode cX6_digest 231 = .ok (.invokevirtual 134, 3) := by decide +kernel
theorem dX6_digest_234 : decode cX6_digest 234 = .ok (.i2l, 1) := by decide +kernel
theorem dX6_digest_235 : decode cX6_digest 235 = .ok (.ladd, 1) := by decide +kernel
theorem dX6_digest_236 : decode cX6_digest 236 = .ok (.lstore_n 2, 1) := by decide +kernel
theorem dX6_digest_237 : decode cX6_digest 237 = .ok (.iinc 4 1, 3) := by decide +kernel
theorem dX6_digest_240 : decode cX6_digest 240 = .ok (.goto (-111), 3) := by decide +kernel
theorem dX6_digest_243 : decode cX6_digest 243 = .ok (.iconst 0, 1) := by decide +kernel
theorem dX6_digest_244 : decode cX6_digest 244 = .ok (.istore 4, 2) := by decide +kernel
theorem dX6_digest_246 : decode cX6_digest 246 = .ok (.iload 4, 2) := by decide +kernel
theorem dX6_digest_248 : decode cX6_digest 248 = .ok (.aload_n 0, 1) := by decide +kernel
theorem dX6_digest_249 : decode cX6_digest 249 = .ok (.getfield 39, 3) := by decide +kernel
theorem dX6_digest_252 : decode cX6_digest 252 = .ok (.if_icmp .ge 141, 3) := by decide +kernel
theorem dX6_digest_255 : decode cX6_digest 255 = .ok (.bipush 7, 2) := by decide +kernel
theorem dX6_digest_257 : decode cX6_digest 257 = .ok (.newarray .int, 2) := by decide +kernel
theorem dX6_digest_259 : decode cX6_digest 259 = .ok (.dup, 1) := by decide +kernel
theorem dX6_digest_260 : decode cX6_digest 260 = .ok (.iconst 0, 1) := by decide +kernel
theorem dX6_digest_261 : decode cX6_digest 261 = .ok (.aload_n 0, 1) := by decide +kernel
theorem dX6_digest_262 : decode cX6_digest 262 = .ok (.getfield 22, 3) := by decide +kernel
theorem dX6_digest_265 : decode cX6_digest 265 = .ok (.bipush 12, 2) := by decide +kernel
theorem dX6_digest_267 : decode cX6_digest 267 = .ok (.iload 4, 2) := by decide +kernel
theorem dX6_digest_269 : decode cX6_digest 269 = .ok (.iadd, 1) := by decide +kernel
theorem dX6_digest_270 : decode cX6_digest 270 = .ok (.iaload, 1) := by decide +kernel
theorem dX6_digest_271 : decode cX6_digest 271 = .ok (.iastore, 1) := by decide +kernel
theorem dX6_digest_272 : decode cX6_digest 272 = .ok (.dup, 1) := by decide +kernel
theorem dX6_digest_273 : decode cX6_digest 273 = .ok (.iconst 1, 1) := by decide +kernel
theorem dX6_digest_274 : decode cX6_digest 274 = .ok (.aload_n 0, 1) := by decide +kernel
theorem dX6_digest_275 : decode cX6_digest 275 = .ok (.getfield 22, 3) := by decide +kernel
theorem dX6_digest_278 : decode cX6_digest 278 = .ok (.bipush 20, 2) := by decide +kernel
theorem dX6_digest_280 : decode cX6_digest 280 = .ok (.iload 4, 2) := by decide +kernel
theorem dX6_digest_282 : decode cX6_digest 282 = .ok (.iadd, 1) := by decide +kernel
theorem dX6_digest_283 : decode cX6_digest 283 = .ok (.iaload, 1) := by decide +kernel
theorem dX6_digest_284 : decode cX6_digest 284 = .ok (.iastore, 1) := by decide +kernel
theorem dX6_digest_285 : decode cX6_digest 285 = .ok (.dup, 1) := by decide +kernel
theorem dX6_digest_286 : decode cX6_digest 286 = .ok (.iconst 2, 1) := by decide +kernel
theorem dX6_digest_287 : decode cX6_digest 287 = .ok (.aload_n 0, 1) := by decide +kernel
theorem dX6_digest_288 : decode cX6_digest 288 = .ok (.getfield 22, 3) := by decide +kernel
theorem dX6_digest_291 : decode cX6_digest 291 = .ok (.bipush 28, 2) := by decide +kernel
theorem dX6_digest_293 : decode cX6_digest 293 = .ok (.iload 4, 2) := by decide +kernel
theorem dX6_digest_295 : decode cX6_digest 295 = .ok (.iadd, 1) := by decide +kernel
theorem dX6_digest_296 : decode cX6_digest 296 = .ok (.iaload, 1) := by decide +kernel
theorem dX6_digest_297 : decode cX6_digest 297 = .ok (.iastore, 1) := by decide +kernel
theorem dX6_digest_298 : decode cX6_digest 298 = .ok (.dup, 1) := by decide +kernel
theorem dX6_digest_299 : decode cX6_digest 299 = .ok (.iconst 3, 1) := by decide +kernel
theorem dX6_digest_300 : decode cX6_digest 300 = .ok (.aload_n 0, 1) := by decide +kernel
theorem dX6_digest_301 : decode cX6_digest 301 = .ok (.getfield 22, 3) := by decide +kernel
theorem dX6_digest_304 : decode cX6_digest 304 = .ok (.bipush 36, 2) := by decide +kernel
theorem dX6_digest_306 : decode cX6_digest 306 = .ok (.iload 4, 2) := by decide +kernel
theorem dX6_digest_308 : decode cX6_digest 308 = .ok (.iadd, 1) := by decide +kernel
theorem dX6_digest_309 : decode cX6_digest 309 = .ok (.iaload, 1) := by decide +kernel
theorem dX6_digest_310 : decode cX6_digest 310 = .ok (.iastore, 1) := by decide +kernel
theorem dX6_digest_311 : decode cX6_digest 311 = .ok (.dup, 1) := by decide +kernel
theorem dX6_digest_312 : decode cX6_digest 312 = .ok (.iconst 4, 1) := by decide +kernel
theorem dX6_digest_313 : decode cX6_digest 313 = .ok (.aload_n 0, 1) := by decide +kernel
theorem dX6_digest_314 : decode cX6_digest 314 = .ok (.getfield 22, 3) := by decide +kernel
theorem dX6_digest_317 : decode cX6_digest 317 = .ok (.bipush 44, 2) := by decide +kernel
theorem dX6_digest_319 : decode cX6_digest 319 = .ok (.iload 4, 2) := by decide +kernel
theorem dX6_digest_321 : decode cX6_digest 321 = .ok (.iadd, 1) := by decide +kernel
theorem dX6_digest_322 : decode cX6_digest 322 = .ok (.iaload, 1) := by decide +kernel
theorem dX6_digest_323 : decode cX6_digest 323 = .ok (.iastore, 1) := by decide +kernel
theorem dX6_digest_324 : decode cX6_digest 324 = .ok (.dup, 1) := by decide +kernel
theorem dX6_digest_325 : decode cX6_digest 325 = .ok (.iconst 5, 1) := by decide +kernel
theorem dX6_digest_326 : decode cX6_digest 326 = .ok (.aload_n 0, 1) := by decide +kernel
theorem dX6_digest_327 : decode cX6_digest 327 = .ok (.iload 4, 2) := by decide +kernel
theorem dX6_digest_329 : decode cX6_digest 329 = .ok (.invokevirtual 119, 3) := by decide +kernel
theorem dX6_digest_332 : decode cX6_digest 332 = .ok (.iastore, 1) := by decide +kernel
theorem dX6_digest_333 : decode cX6_digest 333 = .ok (.dup, 1) := by decide +kernel
theorem dX6_digest_334 : decode cX6_digest 334 = .ok (.bipush 6, 2) := by decide +kernel
theorem dX6_digest_336 : decode cX6_digest 336 = .ok (.aload_n 0, 1) := by decide +kernel
theorem dX6_digest_337 : decode cX6_digest 337 = .ok (.iload 4, 2) := by decide +kernel
theorem dX6_digest_339 : decode cX6_digest 339 = .ok (.invokevirtual 128, 3) := by decide +kernel
theorem dX6_digest_342 : decode cX6_digest 342 = .ok (.iastore, 1) := by decide +kernel
theorem dX6_digest_343 : decode cX6_digest 343 = .ok (.astore 5, 2) := by decide +kernel
theorem dX6_digest_345 : decode cX6_digest 345 = .ok (.aload 5, 2) := by decide +kernel
theorem dX6_digest_347 : decode cX6_digest 347 = .ok (.astore 6, 2) := by decide +kernel
theorem dX6_digest_349 : decode cX6_digest 349 = .ok (.aload 6, 2) := by decide +kernel
theorem dX6_digest_351 : decode cX6_digest 351 = .ok (.arraylength, 1) := by decide +kernel
theorem dX6_digest_352 : decode cX6_digest 352 = .ok (.istore 7, 2) := by decide +kernel
theorem dX6_digest_354 : decode cX6_digest 354 = .ok (.iconst 0, 1) := by decide +kernel
theorem dX6_digest_355 : decode cX6_digest 355 = .ok (.istore 8, 2) := by decide +kernel
theorem dX6_digest_357 : decode cX6_digest 357 = .ok (.iload 8, 2) := by decide +kernel
theorem dX6_digest_359 : decode cX6_digest 359 = .ok (.iload 7, 2) := by decide +kernel
theorem dX6_digest_361 : decode cX6_digest 361 = .ok (.if_icmp .ge 26, 3) := by decide +kernel
theorem dX6_digest_364 : decode cX6_digest 364 = .ok (.aload 6, 2) := by decide +kernel
theorem dX6_digest_366 : decode cX6_digest 366 = .ok (.iload 8, 2) := by decide +kernel
theorem dX6_digest_368 : decode cX6_digest 368 = .ok (.iaload, 1) := by decide +kernel
theorem dX6_digest_369 : decode cX6_digest 369 = .ok (.istore 9, 2) := by decide +kernel
theorem dX6_digest_371 : decode cX6_digest 371 = .ok (.lload_n 2, 1) := by decide +kernel
theorem dX6_digest_372 : decode cX6_digest 372 = .ok (.ldc2_w 139, 3) := by decide +kernel
theorem dX6_digest_375 : decode cX6_digest 375 = .ok (.lmul, 1) := by decide +kernel
theorem dX6_digest_376 : decode cX6_digest 376 = .ok (.iload 9, 2) := by decide +kernel
theorem dX6_digest_378 : decode cX6_digest 378 = .ok (.i2l, 1) := by decide +kernel
theorem dX6_digest_379 : decode cX6_digest 379 = .ok (.ladd, 1) := by decide +kernel
theorem dX6_digest_380 : decode cX6_digest 380 = .ok (.lstore_n 2, 1) := by decide +kernel
theorem dX6_digest_381 : decode cX6_digest 381 = .ok (.iinc 8 1, 3) := by decide +kernel
theorem dX6_digest_384 : decode cX6_digest 384 = .ok (.goto (-27), 3) := by decide +kernel
theorem dX6_digest_387 : decode cX6_digest 387 = .ok (.iinc 4 1, 3) := by decide +kernel
theorem dX6_digest_390 : decode cX6_digest 390 = .ok (.goto (-144), 3) := by decide +kernel
theorem dX6_digest_393 : decode cX6_digest 393 = .ok (.lload_n 2, 1) := by decide +kernel
theorem dX6_digest_394 : decode cX6_digest 394 = .ok (.lreturn, 1) := by decide +kernel
theorem dL_addChannel_0 : decode cL_addChannel 0 = .ok (.aload_n 2, 1) := by decide +kernel
theorem dL_addChannel_1 : decode cL_addChannel 1 = .ok (.iconst 0, 1) := by decide +kernel
theorem dL_addChannel_2 : decode cL_addChannel 2 = .ok (.aload_n 0, 1) := by decide +kernel
theorem dL_addChannel_3 : decode cL_addChannel 3 = .ok (.iload_n 1, 1) := by decide +kernel
theorem dL_addChannel_4 : decode cL_addChannel 4 = .ok (.invokevirtual 7, 3) := by decide +kernel
theorem dL_addChannel_7 : decode cL_addChannel 7 = .ok (.i2l, 1) := by decide +kernel
theorem dL_addChannel_8 : decode cL_addChannel 8 = .ok (.lastore, 1) := by decide +kernel
theorem dL_addChannel_9 : decode cL_addChannel 9 = .ok (.goto 9, 3) := by decide +kernel
theorem dL_addChannel_12 : decode cL_addChannel 12 = .ok (.astore_n 3, 1) := by decide +kernel
theorem dL_addChannel_13 : decode cL_addChannel 13 = .ok (.iconst 1, 1) := by decide +kernel
theorem dL_addChannel_14 : decode cL_addChannel 14 = .ok (.ireturn, 1) := by decide +kernel
theorem dL_addChannel_15 : decode cL_addChannel 15 = .ok (.astore_n 3, 1) := by decide +kernel
theorem dL_addChannel_16 : decode cL_addChannel 16 = .ok (.iconst 2, 1) := by decide +kernel
theorem dL_addChannel_17 : decode cL_addChannel 17 = .ok (.ireturn, 1) := by decide +kernel
theorem dL_addChannel_18 : decode cL_addChannel 18 = .ok (.iconst 0, 1) := by decide +kernel
theorem dL_addChannel_19 : decode cL_addChannel 19 = .ok (.ireturn, 1) := by decide +kernel
theorem dL_addFiber_0 : decode cL_addFiber 0 = .ok (.aload_n 1, 1) := by decide +kernel
theorem dL_addFiber_1 : decode cL_addFiber 1 = .ok (.iconst 0, 1) := by decide +kernel
theorem dL_addFiber_2 : decode cL_addFiber 2 = .ok (.aload_n 0, 1) := by decide +kernel
theorem dL_addFiber_3 : decode cL_addFiber 3 = .ok (.invokevirtual 17, 3) := by decide +kernel
theorem dL_addFiber_6 : decode cL_addFiber 6 = .ok (.i2l, 1) := by decide +kernel
theorem dL_addFiber_7 : decode cL_addFiber 7 = .ok (.lastore, 1) := by decide +kernel
theorem dL_addFiber_8 : decode cL_addFiber 8 = .ok (.goto 6, 3) := by decide +kernel
theorem dL_addFiber_11 : decode cL_addFiber 11 = .ok (.astore_n 2, 1) := by decide +kernel
theorem dL_addFiber_12 : decode cL_addFiber 12 = .ok (.iconst 1, 1) := by decide +kernel
theorem dL_addFiber_13 : decode cL_addFiber 13 = .ok (.ireturn, 1) := by decide +kernel
theorem dL_addFiber_14 : decode cL_addFiber 14 = .ok (.iconst 0, 1) := by decide +kernel
theorem dL_addFiber_15 : decode cL_addFiber 15 = .ok (.ireturn, 1) := by decide +kernel
theorem dL_addStep_0 : decode cL_addStep 0 = .ok (.aload 5, 2) := by decide +kernel
theorem dL_addStep_2 : decode cL_addStep 2 = .ok (.iconst 0, 1) := by decide +kernel
theorem dL_addStep_3 : decode cL_addStep 3 = .ok (.aload_n 0, 1) := by decide +kernel
theorem dL_addStep_4 : decode cL_addStep 4 = .ok (.iload_n 1, 1) := by decide +kernel
theorem dL_addStep_5 : decode cL_addStep 5 = .ok (.iload_n 2, 1) := by decide +kernel
theorem dL_addStep_6 : decode cL_addStep 6 = .ok (.iload_n 3, 1) := by decide +kernel
theorem dL_addStep_7 : decode cL_addStep 7 = .ok (.iload 4, 2) := by decide +kernel
theorem dL_addStep_9 : decode cL_addStep 9 = .ok (.invokevirtual 21, 3) := by decide +kernel
theorem dL_addStep_12 : decode cL_addStep 12 = .ok (.i2l, 1) := by decide +kernel
theorem dL_addStep_13 : decode cL_addStep 13 = .ok (.lastore, 1) := by decide +kernel
theorem dL_addStep_14 : decode cL_addStep 14 = .ok (.goto 15, 3) := by decide +kernel
theorem dL_addStep_17 : decode cL_addStep 17 = .ok (.astore 6, 2) := by decide +kernel
theorem dL_addStep_19 : decode cL_addStep 19 = .ok (.iconst 1, 1) := by decide +kernel
theorem dL_addStep_20 : decode cL_addStep 20 = .ok (.ireturn, 1) := by decide +kernel
theorem dL_addStep_21 : decode cL_addStep 21 = .ok (.astore 6, 2) := by decide +kernel
theorem dL_addStep_23 : decode cL_addStep 23 = .ok (.iconst 2, 1) := by decide +kernel
theorem dL_addStep_24 : decode cL_addStep 24 = .ok (.ireturn, 1) := by decide +kernel
theorem dL_addStep_25 : decode cL_addStep 25 = .ok (.astore 6, 2) := by decide +kernel
theorem dL_addStep_27 : decode cL_addStep 27 = .ok (.iconst 3, 1) := by decide +kernel
theorem dL_addStep_28 : decode cL_addStep 28 = .ok (.ireturn, 1) := by decide +kernel
theorem dL_addStep_29 : decode cL_addStep 29 = .ok (.iconst 0, 1) := by decide +kernel
theorem dL_addStep_30 : decode cL_addStep 30 = .ok (.ireturn, 1) := by decide +kernel
theorem dL_pour_0 : decode cL_pour 0 = .ok (.aload_n 3, 1) := by decide +kernel
theorem dL_pour_1 : decode cL_pour 1 = .ok (.iconst 0, 1) := by decide +kernel
theorem dL_pour_2 : decode cL_pour 2 = .ok (.aload_n 0, 1) := by decide +kernel
theorem dL_pour_3 : decode cL_pour 3 = .ok (.iload_n 1, 1) := by decide +kernel
theorem dL_pour_4 : decode cL_pour 4 = .ok (.iload_n 2, 1) := by decide +kernel
theorem dL_pour_5 : decode cL_pour 5 = .ok (.invokevirtual 27, 3) := by decide +kernel
theorem dL_pour_8 : decode cL_pour 8 = .ok (.i2l, 1) := by decide +kernel
theorem dL_pour_9 : decode cL_pour 9 = .ok (.lastore, 1) := by decide +kernel
theorem dL_pour_10 : decode cL_pour 10 = .ok (.goto 15, 3) := by decide +kernel
theorem dL_pour_13 : decode cL_pour 13 = .ok (.astore 4, 2) := by decide +kernel
theorem dL_pour_15 : decode cL_pour 15 = .ok (.iconst 1, 1) := by decide +kernel
theorem dL_pour_16 : decode cL_pour 16 = .ok (.ireturn, 1) := by decide +kernel
theorem dL_pour_17 : decode cL_pour 17 = .ok (.astore 4, 2) := by decide +kernel
theorem dL_pour_19 : decode cL_pour 19 = .ok (.iconst 2, 1) := by decide +kernel
theorem dL_pour_20 : decode cL_pour 20 = .ok (.ireturn, 1) := by decide +kernel
theorem dL_pour_21 : decode cL_pour 21 = .ok (.astore 4, 2) := by decide +kernel
theorem dL_pour_23 : decode cL_pour 23 = .ok (.iconst 3, 1) := by decide +kernel
theorem dL_pour_24 : decode cL_pour 24 = .ok (.ireturn, 1) := by decide +kernel
theorem dL_pour_25 : decode cL_pour 25 = .ok (.iconst 0, 1) := by decide +kernel
theorem dL_pour_26 : decode cL_pour 26 = .ok (.ireturn, 1) := by decide +kernel
theorem dL_run_0 : decode cL_run 0 = .ok (.aload_n 2, 1) := by decide +kernel
theorem dL_run_1 : decode cL_run 1 = .ok (.iconst 0, 1) := by decide +kernel
theorem dL_run_2 : decode cL_run 2 = .ok (.aload_n 0, 1) := by decide +kernel
theorem dL_run_3 : decode cL_run 3 = .ok (.iload_n 1, 1) := by decide +kernel
theorem dL_run_4 : decode cL_run 4 = .ok (.invokevirtual 31, 3) := by decide +kernel
theorem dL_run_7 : decode cL_run 7 = .ok (.i2l, 1) := by decide +kernel
theorem dL_run_8 : decode cL_run 8 = .ok (.lastore, 1) := by decide +kernel
theorem dL_run_9 : decode cL_run 9 = .ok (.goto 6, 3) := by decide +kernel
theorem dL_run_12 : decode cL_run 12 = .ok (.astore_n 3, 1) := by decide +kernel
theorem dL_run_13 : decode cL_run 13 = .ok (.iconst 1, 1) := by decide +kernel
theorem dL_run_14 : decode cL_run 14 = .ok (.ireturn, 1) := by decide +kernel
theorem dL_run_15 : decode cL_run 15 = .ok (.iconst 0, 1) := by decide +kernel
theorem dL_run_16 : decode cL_run 16 = .ok (.ireturn, 1) := by decide +kernel
theorem dL_held_0 : decode cL_held 0 = .ok (.aload_n 2, 1) := by decide +kernel
theorem dL_held_1 : decode cL_held 1 = .ok (.iconst 0, 1) := by decide +kernel
theorem dL_held_2 : decode cL_held 2 = .ok (.aload_n 0, 1) := by decide +kernel
theorem dL_held_3 : decode cL_held 3 = .ok (.iload_n 1, 1) := by decide +kernel
theorem dL_held_4 : decode cL_held 4 = .ok (.invokevirtual 34, 3) := by decide +kernel
theorem dL_held_7 : decode cL_held 7 = .ok (.i2l, 1) := by decide +kernel
theorem dL_held_8 : decode cL_held 8 = .ok (.lastore, 1) := by decide +kernel
theorem dL_held_9 : decode cL_held 9 = .ok (.goto 6, 3) := by decide +kernel
theorem dL_held_12 : decode cL_held 12 = .ok (.astore_n 3, 1) := by decide +kernel
theorem dL_held_13 : decode cL_held 13 = .ok (.iconst 1, 1) := by decide +kernel
theorem dL_held_14 : decode cL_held 14 = .ok (.ireturn, 1) := by decide +kernel
theorem dL_held_15 : decode cL_held 15 = .ok (.iconst 0, 1) := by decide +kernel
theorem dL_held_16 : decode cL_held 16 = .ok (.ireturn, 1) := by decide +kernel
theorem dL_valueAt_0 : decode cL_valueAt 0 = .ok (.aload_n 3, 1) := by decide +kernel
theorem dL_valueAt_1 : decode cL_valueAt 1 = .ok (.iconst 0, 1) := by decide +kernel
theorem dL_valueAt_2 : decode cL_valueAt 2 = .ok (.aload_n 0, 1) := by decide +kernel
theorem dL_valueAt_3 : decode cL_valueAt 3 = .ok (.iload_n 1, 1) := by decide +kernel
theorem dL_valueAt_4 : decode cL_valueAt 4 = .ok (.iload_n 2, 1) := by decide +kernel
theorem dL_valueAt_5 : decode cL_valueAt 5 = .ok (.invokevirtual 37, 3) := by decide +kernel
theorem dL_valueAt_8 : decode cL_valueAt 8 = .ok (.i2l, 1) := by decide +kernel
theorem dL_valueAt_9 : decode cL_valueAt 9 = .ok (.lastore, 1) := by decide +kernel
theorem dL_valueAt_10 : decode cL_valueAt 10 = .ok (.goto 7, 3) := by decide +kernel
theorem dL_valueAt_13 : decode cL_valueAt 13 = .ok (.astore 4, 2) := by decide +kernel
theorem dL_valueAt_15 : decode cL_valueAt 15 = .ok (.iconst 1, 1) := by decide +kernel
theorem dL_valueAt_16 : decode cL_valueAt 16 = .ok (.ireturn, 1) := by decide +kernel
theorem dL_valueAt_17 : decode cL_valueAt 17 = .ok (.iconst 0, 1) := by decide +kernel
theorem dL_valueAt_18 : decode cL_valueAt 18 = .ok (.ireturn, 1) := by decide +kernel
theorem dL_sendersAt_0 : decode cL_sendersAt 0 = .ok (.aload_n 2, 1) := by decide +kernel
theorem dL_sendersAt_1 : decode cL_sendersAt 1 = .ok (.iconst 0, 1) := by decide +kernel
theorem dL_sendersAt_2 : decode cL_sendersAt 2 = .ok (.aload_n 0, 1) := by decide +kernel
theorem dL_sendersAt_3 : decode cL_sendersAt 3 = .ok (.iload_n 1, 1) := by decide +kernel
theorem dL_sendersAt_4 : decode cL_sendersAt 4 = .ok (.invokevirtual 40, 3) := by decide +kernel
theorem dL_sendersAt_7 : decode cL_sendersAt 7 = .ok (.i2l, 1) := by decide +kernel
theorem dL_sendersAt_8 : decode cL_sendersAt 8 = .ok (.lastore, 1) := by decide +kernel
theorem dL_sendersAt_9 : decode cL_sendersAt 9 = .ok (.goto 6, 3) := by decide +kernel
theorem dL_sendersAt_12 : decode cL_sendersAt 12 = .ok (.astore_n 3, 1) := by decide +kernel
theorem dL_sendersAt_13 : decode cL_sendersAt 13 = .ok (.iconst 1, 1) := by decide +kernel
theorem dL_sendersAt_14 : decode cL_sendersAt 14 = .ok (.ireturn, 1) := by decide +kernel
theorem dL_sendersAt_15 : decode cL_sendersAt 15 = .ok (.iconst 0, 1) := by decide +kernel
theorem dL_sendersAt_16 : decode cL_sendersAt 16 = .ok (.ireturn, 1) := by decide +kernel
theorem dL_takersAt_0 : decode cL_takersAt 0 = .ok (.aload_n 2, 1) := by decide +kernel
theorem dL_takersAt_1 : decode cL_takersAt 1 = .ok (.iconst 0, 1) := by decide +kernel
theorem dL_takersAt_2 : decode cL_takersAt 2 = .ok (.aload_n 0, 1) := by decide +kernel
theorem dL_takersAt_3 : decode cL_takersAt 3 = .ok (.iload_n 1, 1) := by decide +kernel
theorem dL_takersAt_4 : decode cL_takersAt 4 = .ok (.invokevirtual 43, 3) := by decide +kernel
theorem dL_takersAt_7 : decode cL_takersAt 7 = .ok (.i2l, 1) := by decide +kernel
theorem dL_takersAt_8 : decode cL_takersAt 8 = .ok (.lastore, 1) := by decide +kernel
theorem dL_takersAt_9 : decode cL_takersAt 9 = .ok (.goto 6, 3) := by decide +kernel
theorem dL_takersAt_12 : decode cL_takersAt 12 = .ok (.astore_n 3, 1) := by decide +kernel
theorem dL_takersAt_13 : decode cL_takersAt 13 = .ok (.iconst 1, 1) := by decide +kernel
theorem dL_takersAt_14 : decode cL_takersAt 14 = .ok (.ireturn, 1) := by decide +kernel
theorem dL_takersAt_15 : decode cL_takersAt 15 = .ok (.iconst 0, 1) := by decide +kernel
theorem dL_takersAt_16 : decode cL_takersAt 16 = .ok (.ireturn, 1) := by decide +kernel
theorem dL_stateOf_0 : decode cL_stateOf 0 = .ok (.aload_n 2, 1) := by decide +kernel
theorem dL_stateOf_1 : decode cL_stateOf 1 = .ok (.iconst 0, 1) := by decide +kernel
theorem dL_stateOf_2 : decode cL_stateOf 2 = .ok (.aload_n 0, 1) := by decide +kernel
theorem dL_stateOf_3 : decode cL_stateOf 3 = .ok (.iload_n 1, 1) := by decide +kernel
theorem dL_stateOf_4 : decode cL_stateOf 4 = .ok (.invokevirtual 46, 3) := by decide +kernel
theorem dL_stateOf_7 : decode cL_stateOf 7 = .ok (.i2l, 1) := by decide +kernel
theorem dL_stateOf_8 : decode cL_stateOf 8 = .ok (.lastore, 1) := by decide +kernel
theorem dL_stateOf_9 : decode cL_stateOf 9 = .ok (.goto 6, 3) := by decide +kernel
theorem dL_stateOf_12 : decode cL_stateOf 12 = .ok (.astore_n 3, 1) := by decide +kernel
theorem dL_stateOf_13 : decode cL_stateOf 13 = .ok (.iconst 1, 1) := by decide +kernel
theorem dL_stateOf_14 : decode cL_stateOf 14 = .ok (.ireturn, 1) := by decide +kernel
theorem dL_stateOf_15 : decode cL_stateOf 15 = .ok (.iconst 0, 1) := by decide +kernel
theorem dL_stateOf_16 : decode cL_stateOf 16 = .ok (.ireturn, 1) := by decide +kernel
theorem dL_placeOf_0 : decode cL_placeOf 0 = .ok (.aload_n 2, 1) := by decide +kernel
theorem dL_placeOf_1 : decode cL_placeOf 1 = .ok (.iconst 0, 1) := by decide +kernel
theorem dL_placeOf_2 : decode cL_placeOf 2 = .ok (.aload_n 0, 1) := by decide +kernel
theorem dL_placeOf_3 : decode cL_placeOf 3 = .ok (.iload_n 1, 1) := by decide +kernel
theorem dL_placeOf_4 : decode cL_placeOf 4 = .ok (.invokevirtual 49, 3) := by decide +kernel
theorem dL_placeOf_7 : decode cL_placeOf 7 = .ok (.i2l, 1) := by decide +kernel
theorem dL_placeOf_8 : decode cL_placeOf 8 = .ok (.lastore, 1) := by decide +kernel
theorem dL_placeOf_9 : decode cL_placeOf 9 = .ok (.goto 6, 3) := by decide +kernel
theorem dL_placeOf_12 : decode cL_placeOf 12 = .ok (.astore_n 3, 1) := by decide +kernel
theorem dL_placeOf_13 : decode cL_placeOf 13 = .ok (.iconst 1, 1) := by decide +kernel
theorem dL_placeOf_14 : decode cL_placeOf 14 = .ok (.ireturn, 1) := by decide +kernel
theorem dL_placeOf_15 : decode cL_placeOf 15 = .ok (.iconst 0, 1) := by decide +kernel
theorem dL_placeOf_16 : decode cL_placeOf 16 = .ok (.ireturn, 1) := by decide +kernel
theorem dL_sumOf_0 : decode cL_sumOf 0 = .ok (.aload_n 2, 1) := by decide +kernel
theorem dL_sumOf_1 : decode cL_sumOf 1 = .ok (.iconst 0, 1) := by decide +kernel
theorem dL_sumOf_2 : decode cL_sumOf 2 = .ok (.aload_n 0, 1) := by decide +kernel
theorem dL_sumOf_3 : decode cL_sumOf 3 = .ok (.iload_n 1, 1) := by decide +kernel
theorem dL_sumOf_4 : decode cL_sumOf 4 = .ok (.invokevirtual 52, 3) := by decide +kernel
theorem dL_sumOf_7 : decode cL_sumOf 7 = .ok (.i2l, 1) := by decide +kernel
theorem dL_sumOf_8 : decode cL_sumOf 8 = .ok (.lastore, 1) := by decide +kernel
theorem dL_sumOf_9 : decode cL_sumOf 9 = .ok (.goto 6, 3) := by decide +kernel
theorem dL_sumOf_12 : decode cL_sumOf 12 = .ok (.astore_n 3, 1) := by decide +kernel
theorem dL_sumOf_13 : decode cL_sumOf 13 = .ok (.iconst 1, 1) := by decide +kernel
theorem dL_sumOf_14 : decode cL_sumOf 14 = .ok (.ireturn, 1) := by decide +kernel
theorem dL_sumOf_15 : decode cL_sumOf 15 = .ok (.iconst 0, 1) := by decide +kernel
theorem dL_sumOf_16 : decode cL_sumOf 16 = .ok (.ireturn, 1) := by decide +kernel
theorem dL_stepsDone_0 : decode cL_stepsDone 0 = .ok (.aload_n 2, 1) := by decide +kernel
theorem dL_stepsDone_1 : decode cL_stepsDone 1 = .ok (.iconst 0, 1) := by decide +kernel
theorem dL_stepsDone_2 : decode cL_stepsDone 2 = .ok (.aload_n 0, 1) := by decide +kernel
theorem dL_stepsDone_3 : decode cL_stepsDone 3 = .ok (.iload_n 1, 1) := by decide +kernel
theorem dL_stepsDone_4 : decode cL_stepsDone 4 = .ok (.invokevirtual 55, 3) := by decide +kernel
theorem dL_stepsDone_7 : decode cL_stepsDone 7 = .ok (.i2l, 1) := by decide +kernel
theorem dL_stepsDone_8 : decode cL_stepsDone 8 = .ok (.lastore, 1) := by decide +kernel
theorem dL_stepsDone_9 : decode cL_stepsDone 9 = .ok (.goto 6, 3) := by decide +kernel
theorem dL_stepsDone_12 : decode cL_stepsDone 12 = .ok (.astore_n 3, 1) := by decide +kernel
theorem dL_stepsDone_13 : decode cL_stepsDone 13 = .ok (.iconst 1, 1) := by decide +kernel
theorem dL_stepsDone_14 : decode cL_stepsDone 14 = .ok (.ireturn, 1) := by decide +kernel
theorem dL_stepsDone_15 : decode cL_stepsDone 15 = .ok (.iconst 0, 1) := by decide +kernel
theorem dL_stepsDone_16 : decode cL_stepsDone 16 = .ok (.ireturn, 1) := by decide +kernel
theorem dL_turnsOf_0 : decode cL_turnsOf 0 = .ok (.aload_n 2, 1) := by decide +kernel
theorem dL_turnsOf_1 : decode cL_turnsOf 1 = .ok (.iconst 0, 1) := by decide +kernel
theorem dL_turnsOf_2 : decode cL_turnsOf 2 = .ok (.aload_n 0, 1) := by decide +kernel
theorem dL_turnsOf_3 : decode cL_turnsOf 3 = .ok (.iload_n 1, 1) := by decide +kernel
theorem dL_turnsOf_4 : decode cL_turnsOf 4 = .ok (.invokevirtual 58, 3) := by decide +kernel
theorem dL_turnsOf_7 : decode cL_turnsOf 7 = .ok (.i2l, 1) := by decide +kernel
theorem dL_turnsOf_8 : decode cL_turnsOf 8 = .ok (.lastore, 1) := by decide +kernel
theorem dL_turnsOf_9 : decode cL_turnsOf 9 = .ok (.goto 6, 3) := by decide +kernel
theorem dL_turnsOf_12 : decode cL_turnsOf 12 = .ok (.astore_n 3, 1) := by decide +kernel
theorem dL_turnsOf_13 : decode cL_turnsOf 13 = .ok (.iconst 1, 1) := by decide +kernel
theorem dL_turnsOf_14 : decode cL_turnsOf 14 = .ok (.ireturn, 1) := by decide +kernel
theorem dL_turnsOf_15 : decode cL_turnsOf 15 = .ok (.iconst 0, 1) := by decide +kernel
theorem dL_turnsOf_16 : decode cL_turnsOf 16 = .ok (.ireturn, 1) := by decide +kernel
theorem dL_placeInLine_0 : decode cL_placeInLine 0 = .ok (.aload_n 2, 1) := by decide +kernel
theorem dL_placeInLine_1 : decode cL_placeInLine 1 = .ok (.iconst 0, 1) := by decide +kernel
theorem dL_placeInLine_2 : decode cL_placeInLine 2 = .ok (.aload_n 0, 1) := by decide +kernel
theorem dL_placeInLine_3 : decode cL_placeInLine 3 = .ok (.iload_n 1, 1) := by decide +kernel
theorem dL_placeInLine_4 : decode cL_placeInLine 4 = .ok (.invokevirtual 61, 3) := by decide +kernel
theorem dL_placeInLine_7 : decode cL_placeInLine 7 = .ok (.i2l, 1) := by decide +kernel
theorem dL_placeInLine_8 : decode cL_placeInLine 8 = .ok (.lastore, 1) := by decide +kernel
theorem dL_placeInLine_9 : decode cL_placeInLine 9 = .ok (.goto 6, 3) := by decide +kernel
theorem dL_placeInLine_12 : decode cL_placeInLine 12 = .ok (.astore_n 3, 1) := by decide +kernel
theorem dL_placeInLine_13 : decode cL_placeInLine 13 = .ok (.iconst 1, 1) := by decide +kernel
theorem dL_placeInLine_14 : decode cL_placeInLine 14 = .ok (.ireturn, 1) := by decide +kernel
theorem dL_placeInLine_15 : decode cL_placeInLine 15 = .ok (.iconst 0, 1) := by decide +kernel
theorem dL_placeInLine_16 : decode cL_placeInLine 16 = .ok (.ireturn, 1) := by decide +kernel
theorem dL_turnsUntilDone_0 : decode cL_turnsUntilDone 0 = .ok (.aload_n 2, 1) := by decide +kernel
theorem dL_turnsUntilDone_1 : decode cL_turnsUntilDone 1 = .ok (.iconst 0, 1) := by decide +kernel
theorem dL_turnsUntilDone_2 : decode cL_turnsUntilDone 2 = .ok (.aload_n 0, 1) := by decide +kernel
theorem dL_turnsUntilDone_3 : decode cL_turnsUntilDone 3 = .ok (.iload_n 1, 1) := by decide +kernel
theorem dL_turnsUntilDone_4 : decode cL_turnsUntilDone 4 = .ok (.invokevirtual 64, 3) := by decide +kernel
theorem dL_turnsUntilDone_7 : decode cL_turnsUntilDone 7 = .ok (.i2l, 1) := by decide +kernel
theorem dL_turnsUntilDone_8 : decode cL_turnsUntilDone 8 = .ok (.lastore, 1) := by decide +kernel
theorem dL_turnsUntilDone_9 : decode cL_turnsUntilDone 9 = .ok (.goto 6, 3) := by decide +kernel
theorem dL_turnsUntilDone_12 : decode cL_turnsUntilDone 12 = .ok (.astore_n 3, 1) := by decide +kernel
theorem dL_turnsUntilDone_13 : decode cL_turnsUntilDone 13 = .ok (.iconst 1, 1) := by decide +kernel
theorem dL_turnsUntilDone_14 : decode cL_turnsUntilDone 14 = .ok (.ireturn, 1) := by decide +kernel
theorem dL_turnsUntilDone_15 : decode cL_turnsUntilDone 15 = .ok (.iconst 0, 1) := by decide +kernel
theorem dL_turnsUntilDone_16 : decode cL_turnsUntilDone 16 = .ok (.ireturn, 1) := by decide +kernel
theorem dL_sumIn_0 : decode cL_sumIn 0 = .ok (.aload_n 3, 1) := by decide +kernel
theorem dL_sumIn_1 : decode cL_sumIn 1 = .ok (.iconst 0, 1) := by decide +kernel
theorem dL_sumIn_2 : decode cL_sumIn 2 = .ok (.aload_n 0, 1) := by decide +kernel
theorem dL_sumIn_3 : decode cL_sumIn 3 = .ok (.iload_n 1, 1) := by decide +kernel
theorem dL_sumIn_4 : decode cL_sumIn 4 = .ok (.iload_n 2, 1) := by decide +kernel
theorem dL_sumIn_5 : decode cL_sumIn 5 = .ok (.invokevirtual 67, 3) := by decide +kernel
theorem dL_sumIn_8 : decode cL_sumIn 8 = .ok (.i2l, 1) := by decide +kernel
theorem dL_sumIn_9 : decode cL_sumIn 9 = .ok (.lastore, 1) := by decide +kernel
theorem dL_sumIn_10 : decode cL_sumIn 10 = .ok (.goto 11, 3) := by decide +kernel
theorem dL_sumIn_13 : decode cL_sumIn 13 = .ok (.astore 4, 2) := by decide +kernel
theorem dL_sumIn_15 : decode cL_sumIn 15 = .ok (.iconst 1, 1) := by decide +kernel
theorem dL_sumIn_16 : decode cL_sumIn 16 = .ok (.ireturn, 1) := by decide +kernel
theorem dL_sumIn_17 : decode cL_sumIn 17 = .ok (.astore 4, 2) := by decide +kernel
theorem dL_sumIn_19 : decode cL_sumIn 19 = .ok (.iconst 2, 1) := by decide +kernel
theorem dL_sumIn_20 : decode cL_sumIn 20 = .ok (.ireturn, 1) := by decide +kernel
theorem dL_sumIn_21 : decode cL_sumIn 21 = .ok (.iconst 0, 1) := by decide +kernel
theorem dL_sumIn_22 : decode cL_sumIn 22 = .ok (.ireturn, 1) := by decide +kernel
theorem dL_placesWanted_0 : decode cL_placesWanted 0 = .ok (.aload_n 2, 1) := by decide +kernel
theorem dL_placesWanted_1 : decode cL_placesWanted 1 = .ok (.iconst 0, 1) := by decide +kernel
theorem dL_placesWanted_2 : decode cL_placesWanted 2 = .ok (.aload_n 0, 1) := by decide +kernel
theorem dL_placesWanted_3 : decode cL_placesWanted 3 = .ok (.iload_n 1, 1) := by decide +kernel
theorem dL_placesWanted_4 : decode cL_placesWanted 4 = .ok (.invokevirtual 70, 3) := by decide +kernel
theorem dL_placesWanted_7 : decode cL_placesWanted 7 = .ok (.i2l, 1) := by decide +kernel
theorem dL_placesWanted_8 : decode cL_placesWanted 8 = .ok (.lastore, 1) := by decide +kernel
theorem dL_placesWanted_9 : decode cL_placesWanted 9 = .ok (.goto 6, 3) := by decide +kernel
theorem dL_placesWanted_12 : decode cL_placesWanted 12 = .ok (.astore_n 3, 1) := by decide +kernel
theorem dL_placesWanted_13 : decode cL_placesWanted 13 = .ok (.iconst 1, 1) := by decide +kernel
theorem dL_placesWanted_14 : decode cL_placesWanted 14 = .ok (.ireturn, 1) := by decide +kernel
theorem dL_placesWanted_15 : decode cL_placesWanted 15 = .ok (.iconst 0, 1) := by decide +kernel
theorem dL_placesWanted_16 : decode cL_placesWanted 16 = .ok (.ireturn, 1) := by decide +kernel
