def RX0 : String := "JobLoop$Functions"
def TX0 : u_T := fun k => match k with
  | 0 => ("JobLoop$Functions", "sizes", "LJobLoop$Row;", true)
  | 1 => ("JobLoop$Functions", "kinds", "LJobLoop$Row;", true)
  | _ => ("JobLoop$Functions", "values", "LJobLoop$Row;", true)
def tyX0 : Nat → FieldType := fun k => match k with
  | 0 => .object "JobLoop$Row"
  | 1 => .object "JobLoop$Row"
  | _ => .object "JobLoop$Row"
abbrev wsX00 : List Cond := u_ws RX0 TX0 3
theorem nmX0 : ∀ a, a < 3 → ∀ b, b < 3 → a ≠ b → (TX0 a).2.1 ≠ (TX0 b).2.1 := by decide +kernel
theorem tyX0_ok : ∀ k, k < 3 → parseFieldDescriptor (TX0 k).2.2.1 = some (tyX0 k) := by decide +kernel
abbrev cX0_init : ByteArray := prog_2_method_1_code
def yX0_init : MethodName := ⟨RX0, "<init>", "()V"⟩
abbrev cX0_mayBeStep : ByteArray := prog_2_method_2_code
def yX0_mayBeStep : MethodName := ⟨RX0, "mayBeStep", "(III)Z"⟩
abbrev cX0_isFull : ByteArray := prog_2_method_3_code
def yX0_isFull : MethodName := ⟨RX0, "isFull", "(I)Z"⟩
abbrev cX0_add : ByteArray := prog_2_method_4_code
def yX0_add : MethodName := ⟨RX0, "add", "(IIJ)I"⟩
abbrev cX0_removeAll : ByteArray := prog_2_method_5_code
def yX0_removeAll : MethodName := ⟨RX0, "removeAll", "(I)I"⟩
abbrev cX0_sizeOf : ByteArray := prog_2_method_6_code
def yX0_sizeOf : MethodName := ⟨RX0, "sizeOf", "(I)I"⟩
abbrev cX0_kindOf : ByteArray := prog_2_method_7_code
def yX0_kindOf : MethodName := ⟨RX0, "kindOf", "(II)I"⟩
abbrev cX0_valueOf : ByteArray := prog_2_method_8_code
def yX0_valueOf : MethodName := ⟨RX0, "valueOf", "(II)J"⟩
abbrev cX0_behindTry : ByteArray := prog_2_method_9_code
def yX0_behindTry : MethodName := ⟨RX0, "behindTry", "(II)I"⟩
def RX1 : String := "JobLoop$Groups"
def TX1 : u_T := fun k => match k with
  | 0 => ("JobLoop$Groups", "items", "LJobLoop$Row;", true)
  | 1 => ("JobLoop$Groups", "kinds", "LJobLoop$Row;", true)
  | 2 => ("JobLoop$Groups", "placesLeft", "LJobLoop$Row;", true)
  | 3 => ("JobLoop$Groups", "sums", "LJobLoop$Row;", true)
  | 4 => ("JobLoop$Groups", "promises", "LJobLoop$Promises;", true)
  | _ => ("JobLoop$Groups", "size", "I", false)
def tyX1 : Nat → FieldType := fun k => match k with
  | 0 => .object "JobLoop$Row"
  | 1 => .object "JobLoop$Row"
  | 2 => .object "JobLoop$Row"
  | 3 => .object "JobLoop$Row"
  | 4 => .object "JobLoop$Promises"
  | _ => .int
abbrev wsX10 : List Cond := u_ws RX1 TX1 6
theorem nmX1 : ∀ a, a < 6 → ∀ b, b < 6 → a ≠ b → (TX1 a).2.1 ≠ (TX1 b).2.1 := by decide +kernel
theorem tyX1_ok : ∀ k, k < 6 → parseFieldDescriptor (TX1 k).2.2.1 = some (tyX1 k) := by decide +kernel
abbrev cX1_init : ByteArray := prog_3_method_1_code
def yX1_init : MethodName := ⟨RX1, "<init>", "(LJobLoop$Promises;)V"⟩
abbrev cX1_clear : ByteArray := prog_3_method_2_code
def yX1_clear : MethodName := ⟨RX1, "clear", "()V"⟩
abbrev cX1_items : ByteArray := prog_3_method_3_code
def yX1_items : MethodName := ⟨RX1, "items", "()I"⟩
abbrev cX1_isFull : ByteArray := prog_3_method_4_code
def yX1_isFull : MethodName := ⟨RX1, "isFull", "()Z"⟩
abbrev cX1_addItem : ByteArray := prog_3_method_5_code
def yX1_addItem : MethodName := ⟨RX1, "addItem", "(J)I"⟩
abbrev cX1_hasRoom : ByteArray := prog_3_method_6_code
def yX1_hasRoom : MethodName := ⟨RX1, "hasRoom", "()Z"⟩
abbrev cX1_form : ByteArray := prog_3_method_7_code
def yX1_form : MethodName := ⟨RX1, "form", "(I)I"⟩
abbrev cX1_settlePlace : ByteArray := prog_3_method_8_code
def yX1_settlePlace : MethodName := ⟨RX1, "settlePlace", "(IIIJ)V"⟩
abbrev cX1_settleIfComplete : ByteArray := prog_3_method_9_code
def yX1_settleIfComplete : MethodName := ⟨RX1, "settleIfComplete", "(I)V"⟩
def RX2 : String := "JobLoop$Notes"
def TX2 : u_T := fun k => match k with
  | 0 => ("JobLoop$Notes", "values", "LJobLoop$Row;", true)
  | 1 => ("JobLoop$Notes", "noteTurns", "LJobLoop$Row;", true)
  | 2 => ("JobLoop$Notes", "total", "I", false)
  | _ => ("JobLoop$Notes", "turns", "I", false)
def tyX2 : Nat → FieldType := fun k => match k with
  | 0 => .object "JobLoop$Row"
  | 1 => .object "JobLoop$Row"
  | 2 => .int
  | _ => .int
abbrev wsX20 : List Cond := u_ws RX2 TX2 4
theorem nmX2 : ∀ a, a < 4 → ∀ b, b < 4 → a ≠ b → (TX2 a).2.1 ≠ (TX2 b).2.1 := by decide +kernel
theorem tyX2_ok : ∀ k, k < 4 → parseFieldDescriptor (TX2 k).2.2.1 = some (tyX2 k) := by decide +kernel
abbrev cX2_init : ByteArray := prog_4_method_1_code
def yX2_init : MethodName := ⟨RX2, "<init>", "()V"⟩
abbrev cX2_clear : ByteArray := prog_4_method_2_code
def yX2_clear : MethodName := ⟨RX2, "clear", "()V"⟩
abbrev cX2_beginTurn : ByteArray := prog_4_method_3_code
def yX2_beginTurn : MethodName := ⟨RX2, "beginTurn", "()V"⟩
abbrev cX2_turns : ByteArray := prog_4_method_4_code
def yX2_turns : MethodName := ⟨RX2, "turns", "()I"⟩
abbrev cX2_total : ByteArray := prog_4_method_5_code
def yX2_total : MethodName := ⟨RX2, "total", "()I"⟩
abbrev cX2_kept : ByteArray := prog_4_method_6_code
def yX2_kept : MethodName := ⟨RX2, "kept", "()I"⟩
abbrev cX2_add : ByteArray := prog_4_method_7_code
def yX2_add : MethodName := ⟨RX2, "add", "(J)V"⟩
abbrev cX2_valueOf : ByteArray := prog_4_method_8_code
def yX2_valueOf : MethodName := ⟨RX2, "valueOf", "(I)J"⟩
abbrev cX2_turnOf : ByteArray := prog_4_method_9_code
def yX2_turnOf : MethodName := ⟨RX2, "turnOf", "(I)I"⟩
def RX3 : String := "JobLoop$Promises"
def TX3 : u_T := fun k => match k with
  | 0 => ("JobLoop$Promises", "status", "LJobLoop$Row;", true)
  | 1 => ("JobLoop$Promises", "value", "LJobLoop$Row;", true)
  | 2 => ("JobLoop$Promises", "lastKey", "LJobLoop$Row;", true)
  | 3 => ("JobLoop$Promises", "keyUsed", "LJobLoop$Row;", true)
  | 4 => ("JobLoop$Promises", "waitedFor", "LJobLoop$Row;", true)
  | 5 => ("JobLoop$Promises", "adopted", "LJobLoop$Row;", true)
  | 6 => ("JobLoop$Promises", "reactions", "LJobLoop$Row;", true)
  | 7 => ("JobLoop$Promises", "firstReaction", "LJobLoop$Row;", true)
  | 8 => ("JobLoop$Promises", "lastReaction", "LJobLoop$Row;", true)
  | 9 => ("JobLoop$Promises", "next", "LJobLoop$Row;", true)
  | 10 => ("JobLoop$Promises", "source", "LJobLoop$Row;", true)
  | 11 => ("JobLoop$Promises", "made", "I", false)
  | 12 => ("JobLoop$Promises", "jobs", "I", false)
  | 13 => ("JobLoop$Promises", "firstJob", "I", false)
  | _ => ("JobLoop$Promises", "lastJob", "I", false)
def tyX3 : Nat → FieldType := fun k => match k with
  | 0 => .object "JobLoop$Row"
  | 1 => .object "JobLoop$Row"
  | 2 => .object "JobLoop$Row"
  | 3 => .object "JobLoop$Row"
  | 4 => .object "JobLoop$Row"
  | 5 => .object "JobLoop$Row"
  | 6 => .object "JobLoop$Row"
  | 7 => .object "JobLoop$Row"
  | 8 => .object "JobLoop$Row"
  | 9 => .object "JobLoop$Row"
  | 10 => .object "JobLoop$Row"
  | 11 => .int
  | 12 => .int
  | 13 => .int
  | _ => .int
abbrev wsX30 : List Cond := u_ws RX3 TX3 15
theorem nmX3 : ∀ a, a < 15 → ∀ b, b < 15 → a ≠ b → (TX3 a).2.1 ≠ (TX3 b).2.1 := by decide +kernel
theorem tyX3_ok : ∀ k, k < 15 → parseFieldDescriptor (TX3 k).2.2.1 = some (tyX3 k) := by decide +kernel
abbrev cX3_init : ByteArray := prog_5_method_1_code
def yX3_init : MethodName := ⟨RX3, "<init>", "()V"⟩
abbrev cX3_clear : ByteArray := prog_5_method_2_code
def yX3_clear : MethodName := ⟨RX3, "clear", "()V"⟩
abbrev cX3_made : ByteArray := prog_5_method_3_code
def yX3_made : MethodName := ⟨RX3, "made", "()I"⟩
abbrev cX3_isFull : ByteArray := prog_5_method_4_code
def yX3_isFull : MethodName := ⟨RX3, "isFull", "()Z"⟩
abbrev cX3_has : ByteArray := prog_5_method_5_code
def yX3_has : MethodName := ⟨RX3, "has", "(I)Z"⟩
abbrev cX3_statusOf : ByteArray := prog_5_method_6_code
def yX3_statusOf : MethodName := ⟨RX3, "statusOf", "(I)I"⟩
abbrev cX3_valueOf : ByteArray := prog_5_method_7_code
def yX3_valueOf : MethodName := ⟨RX3, "valueOf", "(I)J"⟩
abbrev cX3_lastKeyOf : ByteArray := prog_5_method_8_code
def yX3_lastKeyOf : MethodName := ⟨RX3, "lastKeyOf", "(I)I"⟩
abbrev cX3_isKeyUsed : ByteArray := prog_5_method_9_code
def yX3_isKeyUsed : MethodName := ⟨RX3, "isKeyUsed", "(I)Z"⟩
abbrev cX3_reactionsOf : ByteArray := prog_5_method_10_code
def yX3_reactionsOf : MethodName := ⟨RX3, "reactionsOf", "(I)I"⟩
abbrev cX3_isLoose : ByteArray := prog_5_method_11_code
def yX3_isLoose : MethodName := ⟨RX3, "isLoose", "(I)Z"⟩
abbrev cX3_loose : ByteArray := prog_5_method_12_code
def yX3_loose : MethodName := ⟨RX3, "loose", "()I"⟩
abbrev cX3_make : ByteArray := prog_5_method_13_code
def yX3_make : MethodName := ⟨RX3, "make", "()I"⟩
abbrev cX3_promiseFor : ByteArray := prog_5_method_14_code
def yX3_promiseFor : MethodName := ⟨RX3, "promiseFor", "(J)I"⟩
abbrev cX3_addKey : ByteArray := prog_5_method_15_code
def yX3_addKey : MethodName := ⟨RX3, "addKey", "(I)I"⟩
abbrev cX3_toAdopt : ByteArray := prog_5_method_16_code
def yX3_toAdopt : MethodName := ⟨RX3, "toAdopt", "(I)J"⟩
abbrev cX3_settleBy : ByteArray := prog_5_method_17_code
def yX3_settleBy : MethodName := ⟨RX3, "settleBy", "(IIJI)V"⟩
abbrev cX3_waitFor : ByteArray := prog_5_method_18_code
def yX3_waitFor : MethodName := ⟨RX3, "waitFor", "(II)V"⟩
abbrev cX3_lineUp : ByteArray := prog_5_method_19_code
def yX3_lineUp : MethodName := ⟨RX3, "lineUp", "(III)V"⟩
abbrev cX3_jobs : ByteArray := prog_5_method_20_code
def yX3_jobs : MethodName := ⟨RX3, "jobs", "()I"⟩
abbrev cX3_takeJob : ByteArray := prog_5_method_21_code
def yX3_takeJob : MethodName := ⟨RX3, "takeJob", "()I"⟩
abbrev cX3_sourceOf : ByteArray := prog_5_method_22_code
def yX3_sourceOf : MethodName := ⟨RX3, "sourceOf", "(I)I"⟩
def RX4 : String := "JobLoop$Row"
def TX4 : u_T := fun k => match k with
  | _ => ("JobLoop$Row", "cells", "[J", true)
def tyX4 : Nat → FieldType := fun k => match k with
  | _ => .array .long
abbrev wsX40 : List Cond := u_ws RX4 TX4 1
theorem nmX4 : ∀ a, a < 1 → ∀ b, b < 1 → a ≠ b → (TX4 a).2.1 ≠ (TX4 b).2.1 := by decide +kernel
theorem tyX4_ok : ∀ k, k < 1 → parseFieldDescriptor (TX4 k).2.2.1 = some (tyX4 k) := by decide +kernel
abbrev cX4_init : ByteArray := prog_6_method_1_code
def yX4_init : MethodName := ⟨RX4, "<init>", "(I)V"⟩
abbrev cX4_at : ByteArray := prog_6_method_2_code
def yX4_at : MethodName := ⟨RX4, "at", "(I)I"⟩
abbrev cX4_valueAt : ByteArray := prog_6_method_3_code
def yX4_valueAt : MethodName := ⟨RX4, "valueAt", "(I)J"⟩
abbrev cX4_put : ByteArray := prog_6_method_4_code
def yX4_put : MethodName := ⟨RX4, "put", "(IJ)V"⟩
abbrev cX4_fill : ByteArray := prog_6_method_5_code
def yX4_fill : MethodName := ⟨RX4, "fill", "(J)V"⟩
def RX5 : String := "JobLoop$Runner"
def TX5 : u_T := fun k => match k with
  | 0 => ("JobLoop$Runner", "functions", "LJobLoop$Functions;", true)
  | 1 => ("JobLoop$Runner", "promises", "LJobLoop$Promises;", true)
  | 2 => ("JobLoop$Runner", "tasks", "LJobLoop$Tasks;", true)
  | 3 => ("JobLoop$Runner", "notes", "LJobLoop$Notes;", true)
  | 4 => ("JobLoop$Runner", "function", "LJobLoop$Row;", true)
  | 5 => ("JobLoop$Runner", "place", "LJobLoop$Row;", true)
  | 6 => ("JobLoop$Runner", "xs", "LJobLoop$Row;", true)
  | 7 => ("JobLoop$Runner", "caller", "LJobLoop$Row;", true)
  | 8 => ("JobLoop$Runner", "stopped", "LJobLoop$Row;", true)
  | 9 => ("JobLoop$Runner", "onFulfilled", "LJobLoop$Row;", true)
  | 10 => ("JobLoop$Runner", "onRejected", "LJobLoop$Row;", true)
  | 11 => ("JobLoop$Runner", "current", "I", false)
  | 12 => ("JobLoop$Runner", "doneFor", "I", false)
  | _ => ("JobLoop$Runner", "steps", "I", false)
def tyX5 : Nat → FieldType := fun k => match k with
  | 0 => .object "JobLoop$Functions"
  | 1 => .object "JobLoop$Promises"
  | 2 => .object "JobLoop$Tasks"
  | 3 => .object "JobLoop$Notes"
  | 4 => .object "JobLoop$Row"
  | 5 => .object "JobLoop$Row"
  | 6 => .object "JobLoop$Row"
  | 7 => .object "JobLoop$Row"
  | 8 => .object "JobLoop$Row"
  | 9 => .object "JobLoop$Row"
  | 10 => .object "JobLoop$Row"
  | 11 => .int
  | 12 => .int
  | _ => .int
abbrev wsX50 : List Cond := u_ws RX5 TX5 14
theorem nmX5 : ∀ a, a < 14 → ∀ b, b < 14 → a ≠ b → (TX5 a).2.1 ≠ (TX5 b).2.1 := by decide +kernel
theorem tyX5_ok : ∀ k, k < 14 → parseFieldDescriptor (TX5 k).2.2.1 = some (tyX5 k) := by decide +kernel
abbrev cX5_init : ByteArray := prog_7_method_1_code
def yX5_init : MethodName := ⟨RX5, "<init>", "(LJobLoop$Functions;LJobLoop$Promises;LJobLoop$Tasks;LJobLoop$Notes;)V"⟩
abbrev cX5_clear : ByteArray := prog_7_method_2_code
def yX5_clear : MethodName := ⟨RX5, "clear", "()V"⟩
abbrev cX5_isStopped : ByteArray := prog_7_method_3_code
def yX5_isStopped : MethodName := ⟨RX5, "isStopped", "(I)Z"⟩
abbrev cX5_addHandlers : ByteArray := prog_7_method_4_code
def yX5_addHandlers : MethodName := ⟨RX5, "addHandlers", "(III)I"⟩
abbrev cX5_handle : ByteArray := prog_7_method_5_code
def yX5_handle : MethodName := ⟨RX5, "handle", "(IIJ)V"⟩
abbrev cX5_perform : ByteArray := prog_7_method_6_code
def yX5_perform : MethodName := ⟨RX5, "perform", "(IJI)V"⟩
abbrev cX5_begin : ByteArray := prog_7_method_7_code
def yX5_begin : MethodName := ⟨RX5, "begin", "(IJ)I"⟩
abbrev cX5_enter : ByteArray := prog_7_method_8_code
def yX5_enter : MethodName := ⟨RX5, "enter", "(IIJ)V"⟩
abbrev cX5_resume : ByteArray := prog_7_method_9_code
def yX5_resume : MethodName := ⟨RX5, "resume", "(IIJ)V"⟩
abbrev cX5_goOn : ByteArray := prog_7_method_10_code
def yX5_goOn : MethodName := ⟨RX5, "goOn", "()V"⟩
abbrev cX5_doStep : ByteArray := prog_7_method_11_code
def yX5_doStep : MethodName := ⟨RX5, "doStep", "(II)I"⟩
abbrev cX5_faultOf : ByteArray := prog_7_method_12_code
def yX5_faultOf : MethodName := ⟨RX5, "faultOf", "(IIJ)I"⟩
abbrev cX5_jumpIfZero : ByteArray := prog_7_method_13_code
def yX5_jumpIfZero : MethodName := ⟨RX5, "jumpIfZero", "(II)V"⟩
abbrev cX5_jumpIfAbove : ByteArray := prog_7_method_14_code
def yX5_jumpIfAbove : MethodName := ⟨RX5, "jumpIfAbove", "(II)V"⟩
abbrev cX5_giveZero : ByteArray := prog_7_method_15_code
def yX5_giveZero : MethodName := ⟨RX5, "giveZero", "(I)I"⟩
abbrev cX5_leaveTry : ByteArray := prog_7_method_16_code
def yX5_leaveTry : MethodName := ⟨RX5, "leaveTry", "(II)Z"⟩
abbrev cX5_stop : ByteArray := prog_7_method_17_code
def yX5_stop : MethodName := ⟨RX5, "stop", "(I)V"⟩
abbrev cX5_end : ByteArray := prog_7_method_18_code
def yX5_end : MethodName := ⟨RX5, "end", "(II)V"⟩
def RX6 : String := "JobLoop$Tasks"
def TX6 : u_T := fun k => match k with
  | 0 => ("JobLoop$Tasks", "functions", "LJobLoop$Row;", true)
  | 1 => ("JobLoop$Tasks", "values", "LJobLoop$Row;", true)
  | 2 => ("JobLoop$Tasks", "dues", "LJobLoop$Row;", true)
  | 3 => ("JobLoop$Tasks", "size", "I", false)
  | _ => ("JobLoop$Tasks", "time", "I", false)
def tyX6 : Nat → FieldType := fun k => match k with
  | 0 => .object "JobLoop$Row"
  | 1 => .object "JobLoop$Row"
  | 2 => .object "JobLoop$Row"
  | 3 => .int
  | _ => .int
abbrev wsX60 : List Cond := u_ws RX6 TX6 5
theorem nmX6 : ∀ a, a < 5 → ∀ b, b < 5 → a ≠ b → (TX6 a).2.1 ≠ (TX6 b).2.1 := by decide +kernel
theorem tyX6_ok : ∀ k, k < 5 → parseFieldDescriptor (TX6 k).2.2.1 = some (tyX6 k) := by decide +kernel
abbrev cX6_init : ByteArray := prog_8_method_1_code
def yX6_init : MethodName := ⟨RX6, "<init>", "()V"⟩
abbrev cX6_clear : ByteArray := prog_8_method_2_code
def yX6_clear : MethodName := ⟨RX6, "clear", "()V"⟩
abbrev cX6_size : ByteArray := prog_8_method_3_code
def yX6_size : MethodName := ⟨RX6, "size", "()I"⟩
abbrev cX6_time : ByteArray := prog_8_method_4_code
def yX6_time : MethodName := ⟨RX6, "time", "()I"⟩
abbrev cX6_isFull : ByteArray := prog_8_method_5_code
def yX6_isFull : MethodName := ⟨RX6, "isFull", "()Z"⟩
abbrev cX6_add : ByteArray := prog_8_method_6_code
def yX6_add : MethodName := ⟨RX6, "add", "(IJI)I"⟩
abbrev cX6_dueFirst : ByteArray := prog_8_method_7_code
def yX6_dueFirst : MethodName := ⟨RX6, "dueFirst", "()I"⟩
abbrev cX6_functionOf : ByteArray := prog_8_method_8_code
def yX6_functionOf : MethodName := ⟨RX6, "functionOf", "(I)I"⟩
abbrev cX6_valueOf : ByteArray := prog_8_method_9_code
def yX6_valueOf : MethodName := ⟨RX6, "valueOf", "(I)J"⟩
abbrev cX6_finish : ByteArray := prog_8_method_10_code
def yX6_finish : MethodName := ⟨RX6, "finish", "(I)V"⟩
def RX7 : String := "JobLoop$Thenables"
def TX7 : u_T := fun k => match k with
  | 0 => ("JobLoop$Thenables", "kinds", "LJobLoop$Row;", true)
  | 1 => ("JobLoop$Thenables", "us", "LJobLoop$Row;", true)
  | _ => ("JobLoop$Thenables", "ws", "LJobLoop$Row;", true)
def tyX7 : Nat → FieldType := fun k => match k with
  | 0 => .object "JobLoop$Row"
  | 1 => .object "JobLoop$Row"
  | _ => .object "JobLoop$Row"
abbrev wsX70 : List Cond := u_ws RX7 TX7 3
theorem nmX7 : ∀ a, a < 3 → ∀ b, b < 3 → a ≠ b → (TX7 a).2.1 ≠ (TX7 b).2.1 := by decide +kernel
theorem tyX7_ok : ∀ k, k < 3 → parseFieldDescriptor (TX7 k).2.2.1 = some (tyX7 k) := by decide +kernel
abbrev cX7_init : ByteArray := prog_9_method_1_code
def yX7_init : MethodName := ⟨RX7, "<init>", "()V"⟩
abbrev cX7_clear : ByteArray := prog_9_method_2_code
def yX7_clear : MethodName := ⟨RX7, "clear", "()V"⟩
abbrev cX7_change : ByteArray := prog_9_method_3_code
def yX7_change : MethodName := ⟨RX7, "change", "(IIJJ)V"⟩
abbrev cX7_kindOf : ByteArray := prog_9_method_4_code
def yX7_kindOf : MethodName := ⟨RX7, "kindOf", "(I)I"⟩
abbrev cX7_uOf : ByteArray := prog_9_method_5_code
def yX7_uOf : MethodName := ⟨RX7, "uOf", "(I)J"⟩
abbrev cX7_wOf : ByteArray := prog_9_method_6_code
def yX7_wOf : MethodName := ⟨RX7, "wOf", "(I)J"⟩
def RX8 : String := "JobLoop$Value"
def TX8 : u_T := fun k => match k with
  | _ => ("", "", "", false)
def tyX8 : Nat → FieldType := fun k => match k with
  | _ => .int
abbrev wsX80 : List Cond := u_ws RX8 TX8 0
theorem nmX8 : ∀ a, a < 0 → ∀ b, b < 0 → a ≠ b → (TX8 a).2.1 ≠ (TX8 b).2.1 := by decide +kernel
theorem tyX8_ok : ∀ k, k < 0 → parseFieldDescriptor (TX8 k).2.2.1 = some (tyX8 k) := by decide +kernel
abbrev cX8_of : ByteArray := prog_10_method_2_code
def yX8_of : MethodName := ⟨RX8, "of", "(II)J"⟩
abbrev cX8_sortOf : ByteArray := prog_10_method_3_code
def yX8_sortOf : MethodName := ⟨RX8, "sortOf", "(J)I"⟩
abbrev cX8_numberOf : ByteArray := prog_10_method_4_code
def yX8_numberOf : MethodName := ⟨RX8, "numberOf", "(J)I"⟩
abbrev cX8_exists : ByteArray := prog_10_method_5_code
def yX8_exists : MethodName := ⟨RX8, "exists", "(III)Z"⟩
def RX9 : String := "JobLoop"
def TX9 : u_T := fun k => match k with
  | 0 => ("JobLoop", "promises", "LJobLoop$Promises;", true)
  | 1 => ("JobLoop", "thenables", "LJobLoop$Thenables;", true)
  | 2 => ("JobLoop", "functions", "LJobLoop$Functions;", true)
  | 3 => ("JobLoop", "tasks", "LJobLoop$Tasks;", true)
  | 4 => ("JobLoop", "notes", "LJobLoop$Notes;", true)
  | 5 => ("JobLoop", "groups", "LJobLoop$Groups;", true)
  | _ => ("JobLoop", "runner", "LJobLoop$Runner;", true)
def tyX9 : Nat → FieldType := fun k => match k with
  | 0 => .object "JobLoop$Promises"
  | 1 => .object "JobLoop$Thenables"
  | 2 => .object "JobLoop$Functions"
  | 3 => .object "JobLoop$Tasks"
  | 4 => .object "JobLoop$Notes"
  | 5 => .object "JobLoop$Groups"
  | _ => .object "JobLoop$Runner"
abbrev wsX90 : List Cond := u_ws RX9 TX9 7
theorem nmX9 : ∀ a, a < 7 → ∀ b, b < 7 → a ≠ b → (TX9 a).2.1 ≠ (TX9 b).2.1 := by decide +kernel
theorem tyX9_ok : ∀ k, k < 7 → parseFieldDescriptor (TX9 k).2.2.1 = some (tyX9 k) := by decide +kernel
abbrev cX9_init : ByteArray := prog_1_method_1_code
def yX9_init : MethodName := ⟨RX9, "<init>", "()V"⟩
abbrev cX9_promise : ByteArray := prog_1_method_2_code
def yX9_promise : MethodName := ⟨RX9, "promise", "()I"⟩
abbrev cX9_resolve : ByteArray := prog_1_method_3_code
def yX9_resolve : MethodName := ⟨RX9, "resolve", "(III)Z"⟩
abbrev cX9_reject : ByteArray := prog_1_method_4_code
def yX9_reject : MethodName := ⟨RX9, "reject", "(III)Z"⟩
abbrev cX9_settleFromOutside : ByteArray := prog_1_method_5_code
def yX9_settleFromOutside : MethodName := ⟨RX9, "settleFromOutside", "(IIII)Z"⟩
abbrev cX9_then : ByteArray := prog_1_method_6_code
def yX9_then : MethodName := ⟨RX9, "then", "(III)I"⟩
abbrev cX9_thenable : ByteArray := prog_1_method_7_code
def yX9_thenable : MethodName := ⟨RX9, "thenable", "(IIIIII)Z"⟩
abbrev cX9_step : ByteArray := prog_1_method_8_code
def yX9_step : MethodName := ⟨RX9, "step", "(IIII)I"⟩
abbrev cX9_empty : ByteArray := prog_1_method_9_code
def yX9_empty : MethodName := ⟨RX9, "empty", "(I)I"⟩
abbrev cX9_start : ByteArray := prog_1_method_10_code
def yX9_start : MethodName := ⟨RX9, "start", "(III)I"⟩
abbrev cX9_later : ByteArray := prog_1_method_11_code
def yX9_later : MethodName := ⟨RX9, "later", "(IIII)I"⟩
abbrev cX9_item : ByteArray := prog_1_method_12_code
def yX9_item : MethodName := ⟨RX9, "item", "(II)I"⟩
abbrev cX9_group : ByteArray := prog_1_method_13_code
def yX9_group : MethodName := ⟨RX9, "group", "(I)I"⟩
abbrev cX9_run : ByteArray := prog_1_method_14_code
def yX9_run : MethodName := ⟨RX9, "run", "(I)I"⟩
abbrev cX9_forget : ByteArray := prog_1_method_15_code
def yX9_forget : MethodName := ⟨RX9, "forget", "()I"⟩
abbrev cX9_state : ByteArray := prog_1_method_16_code
def yX9_state : MethodName := ⟨RX9, "state", "(II)I"⟩
abbrev cX9_noted : ByteArray := prog_1_method_17_code
def yX9_noted : MethodName := ⟨RX9, "noted", "(II)J"⟩
abbrev cX9_count : ByteArray := prog_1_method_18_code
def yX9_count : MethodName := ⟨RX9, "count", "(I)I"⟩
abbrev cX9_doJob : ByteArray := prog_1_method_19_code
def yX9_doJob : MethodName := ⟨RX9, "doJob", "(I)V"⟩
abbrev cX9_adopt : ByteArray := prog_1_method_20_code
def yX9_adopt : MethodName := ⟨RX9, "adopt", "(IJI)V"⟩
abbrev cX9_doTask : ByteArray := prog_1_method_21_code
def yX9_doTask : MethodName := ⟨RX9, "doTask", "(I)V"⟩
abbrev cX9_isValue : ByteArray := prog_1_method_22_code
def yX9_isValue : MethodName := ⟨RX9, "isValue", "(II)Z"⟩
abbrev cX9_isFunction : ByteArray := prog_1_method_23_code
def yX9_isFunction : MethodName := ⟨RX9, "isFunction", "(I)Z"⟩
abbrev cX9_isHandler : ByteArray := prog_1_method_24_code
def yX9_isHandler : MethodName := ⟨RX9, "isHandler", "(I)Z"⟩
abbrev cX9_isWithin : ByteArray := prog_1_method_25_code
def yX9_isWithin : MethodName := ⟨RX9, "isWithin", "(II)Z"⟩
abbrev cX9_jobOf : ByteArray := prog_1_method_26_code
def yX9_jobOf : MethodName := ⟨RX9, "jobOf", "(II)I"⟩
def RX10 : String := "JobLoopModel"
def TX10 : u_T := fun k => match k with
  | 0 => ("JobLoopModel", "how", "[I", true)
  | 1 => ("JobLoopModel", "sort", "[I", true)
  | 2 => ("JobLoopModel", "num", "[I", true)
  | 3 => ("JobLoopModel", "key", "[I", true)
  | 4 => ("JobLoopModel", "stopF", "[I", true)
  | 5 => ("JobLoopModel", "stopAt", "[I", true)
  | 6 => ("JobLoopModel", "used", "[Z", true)
  | 7 => ("JobLoopModel", "waited", "[Z", true)
  | 8 => ("JobLoopModel", "stopped", "[Z", true)
  | 9 => ("JobLoopModel", "promises", "I", false)
  | 10 => ("JobLoopModel", "what", "[I", true)
  | 11 => ("JobLoopModel", "on", "[I", true)
  | 12 => ("JobLoopModel", "order", "[I", true)
  | 13 => ("JobLoopModel", "a", "[I", true)
  | 14 => ("JobLoopModel", "b", "[I", true)
  | 15 => ("JobLoopModel", "c", "[I", true)
  | 16 => ("JobLoopModel", "with", "[I", true)
  | 17 => ("JobLoopModel", "vSort", "[I", true)
  | 18 => ("JobLoopModel", "vNum", "[I", true)
  | 19 => ("JobLoopModel", "clock", "I", false)
  | 20 => ("JobLoopModel", "kind", "[I", true)
  | 21 => ("JobLoopModel", "uSort", "[I", true)
  | 22 => ("JobLoopModel", "u", "[I", true)
  | 23 => ("JobLoopModel", "wSort", "[I", true)
  | 24 => ("JobLoopModel", "w", "[I", true)
  | 25 => ("JobLoopModel", "steps", "[I", true)
  | 26 => ("JobLoopModel", "stepWhat", "[I", true)
  | 27 => ("JobLoopModel", "stepSort", "[I", true)
  | 28 => ("JobLoopModel", "stepN", "[I", true)
  | 29 => ("JobLoopModel", "groupKind", "[I", true)
  | 30 => ("JobLoopModel", "groupSize", "[I", true)
  | 31 => ("JobLoopModel", "groupCount", "[I", true)
  | 32 => ("JobLoopModel", "groupSum", "[I", true)
  | 33 => ("JobLoopModel", "itemSort", "[I", true)
  | 34 => ("JobLoopModel", "itemNum", "[I", true)
  | 35 => ("JobLoopModel", "items", "I", false)
  | 36 => ("JobLoopModel", "due", "[I", true)
  | 37 => ("JobLoopModel", "taskOrder", "[I", true)
  | 38 => ("JobLoopModel", "taskF", "[I", true)
  | 39 => ("JobLoopModel", "taskSort", "[I", true)
  | 40 => ("JobLoopModel", "taskNum", "[I", true)
  | 41 => ("JobLoopModel", "time", "I", false)
  | 42 => ("JobLoopModel", "turns", "I", false)
  | 43 => ("JobLoopModel", "noteSort", "[I", true)
  | 44 => ("JobLoopModel", "noteNum", "[I", true)
  | 45 => ("JobLoopModel", "noteTurn", "[I", true)
  | 46 => ("JobLoopModel", "notes", "I", false)
  | 47 => ("JobLoopModel", "runF", "[I", true)
  | 48 => ("JobLoopModel", "runAt", "[I", true)
  | 49 => ("JobLoopModel", "xSort", "[I", true)
  | 50 => ("JobLoopModel", "xNum", "[I", true)
  | 51 => ("JobLoopModel", "runFor", "[I", true)
  | 52 => ("JobLoopModel", "top", "I", false)
  | 53 => ("JobLoopModel", "taken", "I", false)
  | 54 => ("JobLoopModel", "gaveSort", "I", false)
  | 55 => ("JobLoopModel", "gaveNum", "I", false)
  | _ => ("JobLoopModel", "threw", "Z", false)
def tyX10 : Nat → FieldType := fun k => match k with
  | 0 => .array .int
  | 1 => .array .int
  | 2 => .array .int
  | 3 => .array .int
  | 4 => .array .int
  | 5 => .array .int
  | 6 => .array .boolean
  | 7 => .array .boolean
  | 8 => .array .boolean
  | 9 => .int
  | 10 => .array .int
  | 11 => .array .int
  | 12 => .array .int
  | 13 => .array .int
  | 14 => .array .int
  | 15 => .array .int
  | 16 => .array .int
  | 17 => .array .int
  | 18 => .array .int
  | 19 => .int
  | 20 => .array .int
  | 21 => .array .int
  | 22 => .array .int
  | 23 => .array .int
  | 24 => .array .int
  | 25 => .array .int
  | 26 => .array .int
  | 27 => .array .int
  | 28 => .array .int
  | 29 => .array .int
  | 30 => .array .int
  | 31 => .array .int
  | 32 => .array .int
  | 33 => .array .int
  | 34 => .array .int
  | 35 => .int
  | 36 => .array .int
  | 37 => .array .int
  | 38 => .array .int
  | 39 => .array .int
  | 40 => .array .int
  | 41 => .int
  | 42 => .int
  | 43 => .array .int
  | 44 => .array .int
  | 45 => .array .int
  | 46 => .int
  | 47 => .array .int
  | 48 => .array .int
  | 49 => .array .int
  | 50 => .array .int
  | 51 => .array .int
  | 52 => .int
  | 53 => .int
  | 54 => .int
  | 55 => .int
  | _ => .boolean
abbrev wsX100 : List Cond := u_ws RX10 TX10 57
theorem nmX10 : ∀ a, a < 57 → ∀ b, b < 57 → a ≠ b → (TX10 a).2.1 ≠ (TX10 b).2.1 := by decide +kernel
theorem tyX10_ok : ∀ k, k < 57 → parseFieldDescriptor (TX10 k).2.2.1 = some (tyX10 k) := by decide +kernel
abbrev cX10_init : ByteArray := prog_12_method_1_code
def yX10_init : MethodName := ⟨RX10, "<init>", "()V"⟩
abbrev cX10_clear : ByteArray := prog_12_method_2_code
def yX10_clear : MethodName := ⟨RX10, "clear", "()V"⟩
abbrev cX10_in : ByteArray := prog_12_method_3_code
def yX10_in : MethodName := ⟨RX10, "in", "(III)Z"⟩
abbrev cX10_isPromise : ByteArray := prog_12_method_4_code
def yX10_isPromise : MethodName := ⟨RX10, "isPromise", "(I)Z"⟩
abbrev cX10_isValue : ByteArray := prog_12_method_5_code
def yX10_isValue : MethodName := ⟨RX10, "isValue", "(II)Z"⟩
abbrev cX10_promise : ByteArray := prog_12_method_6_code
def yX10_promise : MethodName := ⟨RX10, "promise", "()I"⟩
abbrev cX10_enter : ByteArray := prog_12_method_7_code
def yX10_enter : MethodName := ⟨RX10, "enter", "(IIIII)I"⟩
abbrev cX10_carry : ByteArray := prog_12_method_8_code
def yX10_carry : MethodName := ⟨RX10, "carry", "(IIII)V"⟩
abbrev cX10_firstOn : ByteArray := prog_12_method_9_code
def yX10_firstOn : MethodName := ⟨RX10, "firstOn", "(I)I"⟩
abbrev cX10_settle : ByteArray := prog_12_method_10_code
def yX10_settle : MethodName := ⟨RX10, "settle", "(IIII)V"⟩
abbrev cX10_takes : ByteArray := prog_12_method_11_code
def yX10_takes : MethodName := ⟨RX10, "takes", "(II)Z"⟩
abbrev cX10_resolveBy : ByteArray := prog_12_method_12_code
def yX10_resolveBy : MethodName := ⟨RX10, "resolveBy", "(IIII)V"⟩
abbrev cX10_rejectBy : ByteArray := prog_12_method_13_code
def yX10_rejectBy : MethodName := ⟨RX10, "rejectBy", "(IIII)V"⟩
abbrev cX10_endBy : ByteArray := prog_12_method_14_code
def yX10_endBy : MethodName := ⟨RX10, "endBy", "(IZIII)V"⟩
abbrev cX10_waitFor : ByteArray := prog_12_method_15_code
def yX10_waitFor : MethodName := ⟨RX10, "waitFor", "(IIIII)V"⟩
abbrev cX10_resolve : ByteArray := prog_12_method_16_code
def yX10_resolve : MethodName := ⟨RX10, "resolve", "(III)Z"⟩
abbrev cX10_reject : ByteArray := prog_12_method_17_code
def yX10_reject : MethodName := ⟨RX10, "reject", "(III)Z"⟩
abbrev cX10_then : ByteArray := prog_12_method_18_code
def yX10_then : MethodName := ⟨RX10, "then", "(III)I"⟩
abbrev cX10_thenable : ByteArray := prog_12_method_19_code
def yX10_thenable : MethodName := ⟨RX10, "thenable", "(IIIIII)Z"⟩
abbrev cX10_step : ByteArray := prog_12_method_20_code
def yX10_step : MethodName := ⟨RX10, "step", "(IIII)I"⟩
abbrev cX10_empty : ByteArray := prog_12_method_21_code
def yX10_empty : MethodName := ⟨RX10, "empty", "(I)I"⟩
abbrev cX10_begin : ByteArray := prog_12_method_22_code
def yX10_begin : MethodName := ⟨RX10, "begin", "(IIIII)V"⟩
abbrev cX10_put : ByteArray := prog_12_method_23_code
def yX10_put : MethodName := ⟨RX10, "put", "(II)V"⟩
abbrev cX10_endOf : ByteArray := prog_12_method_24_code
def yX10_endOf : MethodName := ⟨RX10, "endOf", "(II)I"⟩
abbrev cX10_fling : ByteArray := prog_12_method_25_code
def yX10_fling : MethodName := ⟨RX10, "fling", "(II)V"⟩
abbrev cX10_finish : ByteArray := prog_12_method_26_code
def yX10_finish : MethodName := ⟨RX10, "finish", "(ZII)V"⟩
abbrev cX10_note : ByteArray := prog_12_method_27_code
def yX10_note : MethodName := ⟨RX10, "note", "(II)V"⟩
abbrev cX10_awaits : ByteArray := prog_12_method_28_code
def yX10_awaits : MethodName := ⟨RX10, "awaits", "()V"⟩
abbrev cX10_make : ByteArray := prog_12_method_29_code
def yX10_make : MethodName := ⟨RX10, "make", "()I"⟩
abbrev cX10_does : ByteArray := prog_12_method_30_code
def yX10_does : MethodName := ⟨RX10, "does", "(III)V"⟩
abbrev cX10_go : ByteArray := prog_12_method_31_code
def yX10_go : MethodName := ⟨RX10, "go", "()V"⟩
abbrev cX10_start : ByteArray := prog_12_method_32_code
def yX10_start : MethodName := ⟨RX10, "start", "(III)I"⟩
abbrev cX10_task : ByteArray := prog_12_method_33_code
def yX10_task : MethodName := ⟨RX10, "task", "(IIII)Z"⟩
abbrev cX10_later : ByteArray := prog_12_method_34_code
def yX10_later : MethodName := ⟨RX10, "later", "(IIII)I"⟩
abbrev cX10_item : ByteArray := prog_12_method_35_code
def yX10_item : MethodName := ⟨RX10, "item", "(II)I"⟩
abbrev cX10_group : ByteArray := prog_12_method_36_code
def yX10_group : MethodName := ⟨RX10, "group", "(I)I"⟩
abbrev cX10_placed : ByteArray := prog_12_method_37_code
def yX10_placed : MethodName := ⟨RX10, "placed", "(IIIII)V"⟩
abbrev cX10_adopt : ByteArray := prog_12_method_38_code
def yX10_adopt : MethodName := ⟨RX10, "adopt", "(III)V"⟩
abbrev cX10_done : ByteArray := prog_12_method_39_code
def yX10_done : MethodName := ⟨RX10, "done", "(III)V"⟩
abbrev cX10_job : ByteArray := prog_12_method_40_code
def yX10_job : MethodName := ⟨RX10, "job", "(I)V"⟩
abbrev cX10_turn : ByteArray := prog_12_method_41_code
def yX10_turn : MethodName := ⟨RX10, "turn", "()Z"⟩
abbrev cX10_run : ByteArray := prog_12_method_42_code
def yX10_run : MethodName := ⟨RX10, "run", "(I)I"⟩
abbrev cX10_forget : ByteArray := prog_12_method_43_code
def yX10_forget : MethodName := ⟨RX10, "forget", "()I"⟩
abbrev cX10_isLoose : ByteArray := prog_12_method_44_code
def yX10_isLoose : MethodName := ⟨RX10, "isLoose", "(I)Z"⟩
abbrev cX10_state : ByteArray := prog_12_method_45_code
def yX10_state : MethodName := ⟨RX10, "state", "(II)I"⟩
abbrev cX10_waiting : ByteArray := prog_12_method_46_code
def yX10_waiting : MethodName := ⟨RX10, "waiting", "(I)I"⟩
abbrev cX10_noted : ByteArray := prog_12_method_47_code
def yX10_noted : MethodName := ⟨RX10, "noted", "(II)J"⟩
abbrev cX10_count : ByteArray := prog_12_method_48_code
def yX10_count : MethodName := ⟨RX10, "count", "(I)I"⟩
def RL : String := "JobLoopLaw"
abbrev cL_law : ByteArray := code
def yL_law : MethodName := ⟨RL, "law", "([I)Z"⟩
abbrev vwCl : List vw_C := [(RX0, TX0, 3), (RX1, TX1, 6), (RX2, TX2, 4), (RX3, TX3, 15), (RX4, TX4, 1), (RX5, TX5, 14), (RX6, TX6, 5), (RX7, TX7, 3), (RX9, TX9, 7), (RX10, TX10, 57)]
set_option maxRecDepth 100000 in
theorem am_hin0 : ∀ w ∈ u_ws RX0 TX0 3, w ∈ am_T := by
  have h : (u_ws RX0 TX0 3).all (fun w => decide (w ∈ am_T)) = true := by decide +kernel
  intro w hw
  exact of_decide_eq_true (List.all_eq_true.mp h w hw)
set_option maxRecDepth 100000 in
theorem am_hin1 : ∀ w ∈ u_ws RX1 TX1 6, w ∈ am_T := by
  have h : (u_ws RX1 TX1 6).all (fun w => decide (w ∈ am_T)) = true := by decide +kernel
  intro w hw
  exact of_decide_eq_true (List.all_eq_true.mp h w hw)
set_option maxRecDepth 100000 in
theorem am_hin2 : ∀ w ∈ u_ws RX2 TX2 4, w ∈ am_T := by
  have h : (u_ws RX2 TX2 4).all (fun w => decide (w ∈ am_T)) = true := by decide +kernel
  intro w hw
  exact of_decide_eq_true (List.all_eq_true.mp h w hw)
set_option maxRecDepth 100000 in
theorem am_hin3 : ∀ w ∈ u_ws RX3 TX3 15, w ∈ am_T := by
  have h : (u_ws RX3 TX3 15).all (fun w => decide (w ∈ am_T)) = true := by decide +kernel
  intro w hw
  exact of_decide_eq_true (List.all_eq_true.mp h w hw)
set_option maxRecDepth 100000 in
theorem am_hin4 : ∀ w ∈ u_ws RX4 TX4 1, w ∈ am_T := by
  have h : (u_ws RX4 TX4 1).all (fun w => decide (w ∈ am_T)) = true := by decide +kernel
  intro w hw
  exact of_decide_eq_true (List.all_eq_true.mp h w hw)
set_option maxRecDepth 100000 in
theorem am_hin5 : ∀ w ∈ u_ws RX5 TX5 14, w ∈ am_T := by
  have h : (u_ws RX5 TX5 14).all (fun w => decide (w ∈ am_T)) = true := by decide +kernel
  intro w hw
  exact of_decide_eq_true (List.all_eq_true.mp h w hw)
set_option maxRecDepth 100000 in
theorem am_hin6 : ∀ w ∈ u_ws RX6 TX6 5, w ∈ am_T := by
  have h : (u_ws RX6 TX6 5).all (fun w => decide (w ∈ am_T)) = true := by decide +kernel
  intro w hw
  exact of_decide_eq_true (List.all_eq_true.mp h w hw)
set_option maxRecDepth 100000 in
theorem am_hin7 : ∀ w ∈ u_ws RX7 TX7 3, w ∈ am_T := by
  have h : (u_ws RX7 TX7 3).all (fun w => decide (w ∈ am_T)) = true := by decide +kernel
  intro w hw
  exact of_decide_eq_true (List.all_eq_true.mp h w hw)
set_option maxRecDepth 100000 in
theorem am_hin9 : ∀ w ∈ u_ws RX9 TX9 7, w ∈ am_T := by
  have h : (u_ws RX9 TX9 7).all (fun w => decide (w ∈ am_T)) = true := by decide +kernel
  intro w hw
  exact of_decide_eq_true (List.all_eq_true.mp h w hw)
set_option maxRecDepth 100000 in
theorem am_hin10 : ∀ w ∈ u_ws RX10 TX10 57, w ∈ am_T := by
  have h : (u_ws RX10 TX10 57).all (fun w => decide (w ∈ am_T)) = true := by decide +kernel
  intro w hw
  exact of_decide_eq_true (List.all_eq_true.mp h w hw)
