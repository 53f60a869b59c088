section
-- ===== PART A: goes FIRST, ahead of the names: the tables' words, and 'selects' of the private methods out of them =====
/-- a private method of a class that the tables say can be made, by its rows of tables_1 -/
def lw_okq (q : MethodName × Nat) : Prop := (q.1.cls ≠ "java/lang/invoke/MethodHandle" ∧ q.1.cls ≠ "java/lang/invoke/VarHandle") ∧ Cond.instantiable q.1.cls q.2 ∈ tables_1 ∧ Cond.privateMethod q.1 ∈ tables_1 ∧ Cond.instanceMethod q.1 ∈ tables_1
def lw_privs : List (MethodName × Nat) := []
def lw_tbl : List Cond := k2_sels lw_privs ++ tables_1
theorem lw_privs_ok : ∀ q ∈ lw_privs, lw_okq q := fun _ h => absurd h List.not_mem_nil
end
section
-- names, printed by the check's program (claim/NAMES.whole.lean.txt): classes, fields, methods
def RX0 : String := "InterruptInn$History"
def TX0 : u_T := fun k => match k with
  | 0 => ("InterruptInn$History", "states", "[LInterruptInn$Server;", true)
  | 1 => ("InterruptInn$History", "next", "I", false)
  | _ => ("InterruptInn$History", "size", "I", false)
def tyX0 : Nat → FieldType := fun k => match k with
  | 0 => .array (.object "InterruptInn$Server")
  | 1 => .int
  | _ => .int
abbrev wsX00 : List Cond := u_ws RX0 TX0 3
theorem nmX0 : ∀ a, a < 3 → ∀ b, b < 3 → a ≠ b → (TX0 a).2.1 ≠ (TX0 b).2.1 := by decide +kernel
theorem tyX0_ok : ∀ k, k < 3 → parseFieldDescriptor (TX0 k).2.2.1 = some (tyX0 k) := by decide +kernel
abbrev cX0_init : ByteArray := prog_2_method_1_code
def yX0_init : MethodName := ⟨RX0, "<init>", "()V"⟩
abbrev cX0_prepare : ByteArray := prog_2_method_2_code
def yX0_prepare : MethodName := ⟨RX0, "prepare", "(LInterruptInn$Server;)V"⟩
abbrev cX0_recordUnlessError : ByteArray := prog_2_method_3_code
def yX0_recordUnlessError : MethodName := ⟨RX0, "recordUnlessError", "(I)I"⟩
def RX1 : String := "InterruptInn$Line"
def TX1 : u_T := fun k => match k with
  | 0 => ("InterruptInn$Line", "rank", "I", false)
  | 1 => ("InterruptInn$Line", "need", "I", false)
  | 2 => ("InterruptInn$Line", "deadline", "I", false)
  | 3 => ("InterruptInn$Line", "level", "Z", false)
  | 4 => ("InterruptInn$Line", "masked", "Z", false)
  | 5 => ("InterruptInn$Line", "waits", "Z", false)
  | 6 => ("InterruptInn$Line", "waited", "I", false)
  | 7 => ("InterruptInn$Line", "place", "I", false)
  | 8 => ("InterruptInn$Line", "devices", "I", false)
  | 9 => ("InterruptInn$Line", "came", "I", false)
  | 10 => ("InterruptInn$Line", "lost", "I", false)
  | 11 => ("InterruptInn$Line", "began", "I", false)
  | 12 => ("InterruptInn$Line", "ended", "I", false)
  | 13 => ("InterruptInn$Line", "longestWait", "I", false)
  | 14 => ("InterruptInn$Line", "allWaits", "I", false)
  | _ => ("InterruptInn$Line", "misses", "I", false)
def tyX1 : Nat → FieldType := fun k => match k with
  | 0 => .int
  | 1 => .int
  | 2 => .int
  | 3 => .boolean
  | 4 => .boolean
  | 5 => .boolean
  | 6 => .int
  | 7 => .int
  | 8 => .int
  | 9 => .int
  | 10 => .int
  | 11 => .int
  | 12 => .int
  | 13 => .int
  | 14 => .int
  | _ => .int
abbrev wsX10 : List Cond := u_ws RX1 TX1 16
theorem nmX1 : ∀ a, a < 16 → ∀ b, b < 16 → a ≠ b → (TX1 a).2.1 ≠ (TX1 b).2.1 := by decide +kernel
theorem tyX1_ok : ∀ k, k < 16 → parseFieldDescriptor (TX1 k).2.2.1 = some (tyX1 k) := by decide +kernel
abbrev cX1_init : ByteArray := prog_3_method_1_code
def yX1_init : MethodName := ⟨RX1, "<init>", "()V"⟩
abbrev cX1_becomeNew : ByteArray := prog_3_method_2_code
def yX1_becomeNew : MethodName := ⟨RX1, "becomeNew", "(Z)V"⟩
abbrev cX1_shape : ByteArray := prog_3_method_3_code
def yX1_shape : MethodName := ⟨RX1, "shape", "(III)V"⟩
abbrev cX1_copyFrom : ByteArray := prog_3_method_4_code
def yX1_copyFrom : MethodName := ⟨RX1, "copyFrom", "(LInterruptInn$Line;)V"⟩
abbrev cX1_presentRank : ByteArray := prog_3_method_5_code
def yX1_presentRank : MethodName := ⟨RX1, "presentRank", "(II)I"⟩
abbrev cX1_mayBegin : ByteArray := prog_3_method_6_code
def yX1_mayBegin : MethodName := ⟨RX1, "mayBegin", "()Z"⟩
abbrev cX1_takeEdge : ByteArray := prog_3_method_7_code
def yX1_takeEdge : MethodName := ⟨RX1, "takeEdge", "(Z)Z"⟩
abbrev cX1_moveDevice : ByteArray := prog_3_method_8_code
def yX1_moveDevice : MethodName := ⟨RX1, "moveDevice", "(IZ)V"⟩
abbrev cX1_followDevices : ByteArray := prog_3_method_9_code
def yX1_followDevices : MethodName := ⟨RX1, "followDevices", "()V"⟩
abbrev cX1_enterNest : ByteArray := prog_3_method_10_code
def yX1_enterNest : MethodName := ⟨RX1, "enterNest", "(I)V"⟩
abbrev cX1_leaveNest : ByteArray := prog_3_method_11_code
def yX1_leaveNest : MethodName := ⟨RX1, "leaveNest", "()V"⟩
abbrev cX1_number : ByteArray := prog_3_method_12_code
def yX1_number : MethodName := ⟨RX1, "number", "(III)I"⟩
def RX2 : String := "InterruptInn$Pad"
def TX2 : u_T := fun k => match k with
  | 0 => ("InterruptInn$Pad", "signs", "[C", true)
  | _ => ("InterruptInn$Pad", "length", "I", false)
def tyX2 : Nat → FieldType := fun k => match k with
  | 0 => .array .char
  | _ => .int
abbrev wsX20 : List Cond := u_ws RX2 TX2 2
theorem nmX2 : ∀ a, a < 2 → ∀ b, b < 2 → a ≠ b → (TX2 a).2.1 ≠ (TX2 b).2.1 := by decide +kernel
theorem tyX2_ok : ∀ k, k < 2 → parseFieldDescriptor (TX2 k).2.2.1 = some (tyX2 k) := by decide +kernel
abbrev cX2_init : ByteArray := prog_4_method_1_code
def yX2_init : MethodName := ⟨RX2, "<init>", "()V"⟩
def RX3 : String := "InterruptInn$Server"
def TX3 : u_T := fun k => match k with
  | 0 => ("InterruptInn$Server", "tick", "I", false)
  | 1 => ("InterruptInn$Server", "settings", "[I", true)
  | 2 => ("InterruptInn$Server", "lines", "[LInterruptInn$Line;", true)
  | 3 => ("InterruptInn$Server", "lineCount", "I", false)
  | 4 => ("InterruptInn$Server", "timers", "[LInterruptInn$Timer;", true)
  | 5 => ("InterruptInn$Server", "timerCount", "I", false)
  | 6 => ("InterruptInn$Server", "nest", "[LInterruptInn$Service;", true)
  | 7 => ("InterruptInn$Server", "depth", "I", false)
  | 8 => ("InterruptInn$Server", "servedTicks", "I", false)
  | 9 => ("InterruptInn$Server", "deepestSoFar", "I", false)
  | _ => ("InterruptInn$Server", "interruptions", "I", false)
def tyX3 : Nat → FieldType := fun k => match k with
  | 0 => .int
  | 1 => .array .int
  | 2 => .array (.object "InterruptInn$Line")
  | 3 => .int
  | 4 => .array (.object "InterruptInn$Timer")
  | 5 => .int
  | 6 => .array (.object "InterruptInn$Service")
  | 7 => .int
  | 8 => .int
  | 9 => .int
  | _ => .int
abbrev wsX30 : List Cond := u_ws RX3 TX3 11
theorem nmX3 : ∀ a, a < 11 → ∀ b, b < 11 → a ≠ b → (TX3 a).2.1 ≠ (TX3 b).2.1 := by decide +kernel
theorem tyX3_ok : ∀ k, k < 11 → parseFieldDescriptor (TX3 k).2.2.1 = some (tyX3 k) := by decide +kernel
abbrev cX3_init : ByteArray := prog_5_method_1_code
def yX3_init : MethodName := ⟨RX3, "<init>", "()V"⟩
abbrev cX3_copyFrom : ByteArray := prog_5_method_2_code
def yX3_copyFrom : MethodName := ⟨RX3, "copyFrom", "(LInterruptInn$Server;)V"⟩
abbrev cX3_hasLine : ByteArray := prog_5_method_3_code
def yX3_hasLine : MethodName := ⟨RX3, "hasLine", "(I)Z"⟩
abbrev cX3_hasTimer : ByteArray := prog_5_method_4_code
def yX3_hasTimer : MethodName := ⟨RX3, "hasTimer", "(I)Z"⟩
abbrev cX3_changeSetting : ByteArray := prog_5_method_5_code
def yX3_changeSetting : MethodName := ⟨RX3, "changeSetting", "(II)I"⟩
abbrev cX3_addLine : ByteArray := prog_5_method_6_code
def yX3_addLine : MethodName := ⟨RX3, "addLine", "(IIII)I"⟩
abbrev cX3_changeLine : ByteArray := prog_5_method_7_code
def yX3_changeLine : MethodName := ⟨RX3, "changeLine", "(IIII)I"⟩
abbrev cX3_isShape : ByteArray := prog_5_method_8_code
def yX3_isShape : MethodName := ⟨RX3, "isShape", "(III)Z"⟩
abbrev cX3_addTimer : ByteArray := prog_5_method_9_code
def yX3_addTimer : MethodName := ⟨RX3, "addTimer", "(III)I"⟩
abbrev cX3_removeTimer : ByteArray := prog_5_method_10_code
def yX3_removeTimer : MethodName := ⟨RX3, "removeTimer", "(I)I"⟩
abbrev cX3_raiseLine : ByteArray := prog_5_method_11_code
def yX3_raiseLine : MethodName := ⟨RX3, "raiseLine", "(I)I"⟩
abbrev cX3_holdLine : ByteArray := prog_5_method_12_code
def yX3_holdLine : MethodName := ⟨RX3, "holdLine", "(III)I"⟩
abbrev cX3_maskLine : ByteArray := prog_5_method_13_code
def yX3_maskLine : MethodName := ⟨RX3, "maskLine", "(II)I"⟩
abbrev cX3_passTicks : ByteArray := prog_5_method_14_code
def yX3_passTicks : MethodName := ⟨RX3, "passTicks", "(I)I"⟩
abbrev cX3_passTick : ByteArray := prog_5_method_15_code
def yX3_passTick : MethodName := ⟨RX3, "passTick", "()I"⟩
abbrev cX3_raiseByTimers : ByteArray := prog_5_method_16_code
def yX3_raiseByTimers : MethodName := ⟨RX3, "raiseByTimers", "()V"⟩
abbrev cX3_foundLine : ByteArray := prog_5_method_17_code
def yX3_foundLine : MethodName := ⟨RX3, "foundLine", "()I"⟩
abbrev cX3_beginFoundLine : ByteArray := prog_5_method_18_code
def yX3_beginFoundLine : MethodName := ⟨RX3, "beginFoundLine", "()I"⟩
abbrev cX3_nestTakes : ByteArray := prog_5_method_19_code
def yX3_nestTakes : MethodName := ⟨RX3, "nestTakes", "(I)Z"⟩
abbrev cX3_serveTop : ByteArray := prog_5_method_20_code
def yX3_serveTop : MethodName := ⟨RX3, "serveTop", "()V"⟩
abbrev cX3_growWaits : ByteArray := prog_5_method_21_code
def yX3_growWaits : MethodName := ⟨RX3, "growWaits", "()V"⟩
abbrev cX3_numberOfLine : ByteArray := prog_5_method_22_code
def yX3_numberOfLine : MethodName := ⟨RX3, "numberOfLine", "(II)I"⟩
abbrev cX3_numberOfPlace : ByteArray := prog_5_method_23_code
def yX3_numberOfPlace : MethodName := ⟨RX3, "numberOfPlace", "(II)I"⟩
abbrev cX3_numberOfTimer : ByteArray := prog_5_method_24_code
def yX3_numberOfTimer : MethodName := ⟨RX3, "numberOfTimer", "(II)I"⟩
abbrev cX3_numberOfAll : ByteArray := prog_5_method_25_code
def yX3_numberOfAll : MethodName := ⟨RX3, "numberOfAll", "(I)I"⟩
abbrev cX3_waitingLines : ByteArray := prog_5_method_26_code
def yX3_waitingLines : MethodName := ⟨RX3, "waitingLines", "()I"⟩
abbrev cX3_missesOfAll : ByteArray := prog_5_method_27_code
def yX3_missesOfAll : MethodName := ⟨RX3, "missesOfAll", "()I"⟩
abbrev cX3_costOf : ByteArray := prog_5_method_30_code
def yX3_costOf : MethodName := ⟨RX3, "costOf", "(I)I"⟩
def RX4 : String := "InterruptInn$Service"
def TX4 : u_T := fun k => match k with
  | 0 => ("InterruptInn$Service", "line", "I", false)
  | 1 => ("InterruptInn$Service", "rank", "I", false)
  | 2 => ("InterruptInn$Service", "left", "I", false)
  | _ => ("InterruptInn$Service", "begun", "I", false)
def tyX4 : Nat → FieldType := fun k => match k with
  | 0 => .int
  | 1 => .int
  | 2 => .int
  | _ => .int
abbrev wsX40 : List Cond := u_ws RX4 TX4 4
theorem nmX4 : ∀ a, a < 4 → ∀ b, b < 4 → a ≠ b → (TX4 a).2.1 ≠ (TX4 b).2.1 := by decide +kernel
theorem tyX4_ok : ∀ k, k < 4 → parseFieldDescriptor (TX4 k).2.2.1 = some (tyX4 k) := by decide +kernel
abbrev cX4_init : ByteArray := prog_6_method_1_code
def yX4_init : MethodName := ⟨RX4, "<init>", "()V"⟩
abbrev cX4_copyFrom : ByteArray := prog_6_method_2_code
def yX4_copyFrom : MethodName := ⟨RX4, "copyFrom", "(LInterruptInn$Service;)V"⟩
abbrev cX4_number : ByteArray := prog_6_method_3_code
def yX4_number : MethodName := ⟨RX4, "number", "(I)I"⟩
def RX5 : String := "InterruptInn$Timer"
def TX5 : u_T := fun k => match k with
  | 0 => ("InterruptInn$Timer", "line", "I", false)
  | 1 => ("InterruptInn$Timer", "period", "I", false)
  | _ => ("InterruptInn$Timer", "next", "I", false)
def tyX5 : Nat → FieldType := fun k => match k with
  | 0 => .int
  | 1 => .int
  | _ => .int
abbrev wsX50 : List Cond := u_ws RX5 TX5 3
theorem nmX5 : ∀ a, a < 3 → ∀ b, b < 3 → a ≠ b → (TX5 a).2.1 ≠ (TX5 b).2.1 := by decide +kernel
theorem tyX5_ok : ∀ k, k < 3 → parseFieldDescriptor (TX5 k).2.2.1 = some (tyX5 k) := by decide +kernel
abbrev cX5_init : ByteArray := prog_7_method_1_code
def yX5_init : MethodName := ⟨RX5, "<init>", "()V"⟩
abbrev cX5_copyFrom : ByteArray := prog_7_method_2_code
def yX5_copyFrom : MethodName := ⟨RX5, "copyFrom", "(LInterruptInn$Timer;)V"⟩
abbrev cX5_number : ByteArray := prog_7_method_3_code
def yX5_number : MethodName := ⟨RX5, "number", "(I)I"⟩
def RX6 : String := "InterruptInn"
def TX6 : u_T := fun k => match k with
  | 0 => ("InterruptInn", "server", "LInterruptInn$Server;", true)
  | 1 => ("InterruptInn", "trial", "LInterruptInn$Server;", true)
  | 2 => ("InterruptInn", "slots", "[LInterruptInn$Server;", true)
  | 3 => ("InterruptInn", "saved", "[Z", true)
  | 4 => ("InterruptInn", "history", "LInterruptInn$History;", true)
  | _ => ("InterruptInn", "pad", "LInterruptInn$Pad;", true)
def tyX6 : Nat → FieldType := fun k => match k with
  | 0 => .object "InterruptInn$Server"
  | 1 => .object "InterruptInn$Server"
  | 2 => .array (.object "InterruptInn$Server")
  | 3 => .array .boolean
  | 4 => .object "InterruptInn$History"
  | _ => .object "InterruptInn$Pad"
abbrev wsX60 : List Cond := u_ws RX6 TX6 6
theorem nmX6 : ∀ a, a < 6 → ∀ b, b < 6 → a ≠ b → (TX6 a).2.1 ≠ (TX6 b).2.1 := by decide +kernel
theorem tyX6_ok : ∀ k, k < 6 → parseFieldDescriptor (TX6 k).2.2.1 = some (tyX6 k) := by decide +kernel
abbrev cX6_init : ByteArray := prog_1_method_1_code
def yX6_init : MethodName := ⟨RX6, "<init>", "()V"⟩
abbrev cX6_set : ByteArray := prog_1_method_2_code
def yX6_set : MethodName := ⟨RX6, "set", "(II)I"⟩
abbrev cX6_line : ByteArray := prog_1_method_3_code
def yX6_line : MethodName := ⟨RX6, "line", "(IIII)I"⟩
abbrev cX6_timer : ByteArray := prog_1_method_4_code
def yX6_timer : MethodName := ⟨RX6, "timer", "(III)I"⟩
abbrev cX6_stop : ByteArray := prog_1_method_5_code
def yX6_stop : MethodName := ⟨RX6, "stop", "(I)I"⟩
abbrev cX6_raise : ByteArray := prog_1_method_6_code
def yX6_raise : MethodName := ⟨RX6, "raise", "(I)I"⟩
abbrev cX6_hold : ByteArray := prog_1_method_7_code
def yX6_hold : MethodName := ⟨RX6, "hold", "(III)I"⟩
abbrev cX6_mask : ByteArray := prog_1_method_8_code
def yX6_mask : MethodName := ⟨RX6, "mask", "(II)I"⟩
abbrev cX6_change : ByteArray := prog_1_method_9_code
def yX6_change : MethodName := ⟨RX6, "change", "(IIII)I"⟩
abbrev cX6_ticks : ByteArray := prog_1_method_10_code
def yX6_ticks : MethodName := ⟨RX6, "ticks", "(I)I"⟩
abbrev cX6_ofLine : ByteArray := prog_1_method_11_code
def yX6_ofLine : MethodName := ⟨RX6, "ofLine", "(II)I"⟩
abbrev cX6_ofNest : ByteArray := prog_1_method_12_code
def yX6_ofNest : MethodName := ⟨RX6, "ofNest", "(II)I"⟩
abbrev cX6_ofTimer : ByteArray := prog_1_method_13_code
def yX6_ofTimer : MethodName := ⟨RX6, "ofTimer", "(II)I"⟩
abbrev cX6_count : ByteArray := prog_1_method_14_code
def yX6_count : MethodName := ⟨RX6, "count", "(I)I"⟩
abbrev cX6_within : ByteArray := prog_1_method_29_code
def yX6_within : MethodName := ⟨RX6, "within", "(III)Z"⟩
def RX7 : String := "InterruptInnModel"
def TX7 : u_T := fun k => match k with
  | _ => ("", "", "", false)
def tyX7 : Nat → FieldType := fun k => match k with
  | _ => .int
abbrev wsX70 : List Cond := u_ws RX7 TX7 0
theorem nmX7 : ∀ a, a < 0 → ∀ b, b < 0 → a ≠ b → (TX7 a).2.1 ≠ (TX7 b).2.1 := by decide +kernel
theorem tyX7_ok : ∀ k, k < 0 → parseFieldDescriptor (TX7 k).2.2.1 = some (tyX7 k) := by decide +kernel
def RJx8e188 : String := "java/lang/Cloneable"
def RJ10 : String := "java/lang/System"
def RL : String := "InterruptInnLaw"
abbrev cL_cell : ByteArray := method_2_code
def yL_cell : MethodName := ⟨RL, "cell", "([III)I"⟩
abbrev cL_has : ByteArray := method_3_code
def yL_has : MethodName := ⟨RL, "has", "(II)Z"⟩
abbrev cL_present : ByteArray := method_4_code
def yL_present : MethodName := ⟨RL, "present", "(LInterruptInn;III)I"⟩
abbrev cL_agree : ByteArray := method_5_code
def yL_agree : MethodName := ⟨RL, "agree", "(LInterruptInn;)Z"⟩
abbrev cL_isTick : ByteArray := method_6_code
def yL_isTick : MethodName := ⟨RL, "isTick", "(LInterruptInn;)Z"⟩
abbrev cL_isRaised : ByteArray := method_7_code
def yL_isRaised : MethodName := ⟨RL, "isRaised", "(LInterruptInn;I)Z"⟩
abbrev cL_isHeld : ByteArray := method_8_code
def yL_isHeld : MethodName := ⟨RL, "isHeld", "(LInterruptInn;III)Z"⟩
abbrev cL_isTimer : ByteArray := method_9_code
def yL_isTimer : MethodName := ⟨RL, "isTimer", "(LInterruptInn;III)Z"⟩
abbrev cL_isAct : ByteArray := method_10_code
def yL_isAct : MethodName := ⟨RL, "isAct", "(LInterruptInn;[II)Z"⟩
abbrev cL_law : ByteArray := code
def yL_law : MethodName := ⟨RL, "law", "([I)Z"⟩
end
section
-- decode rows, printed by the check's program
theorem dX0_init_0 : decode cX0_init 0 = .ok (.aload_n 0, 1) := by decide +kernel
theorem dX0_init_1 : decode cX0_init 1 = .ok (.invokespecial 3, 3) := by decide +kernel
theorem dX0_init_4 : decode cX0_init 4 = .ok (.aload_n 0, 1) := by decide +kernel
theorem dX0_init_5 : decode cX0_init 5 = .ok (.bipush 7, 2) := by decide +kernel
theorem dX0_init_7 : decode cX0_init 7 = .ok (.anewarray 9, 3) := by decide +kernel
theorem dX0_init_10 : decode cX0_init 10 = .ok (.putfield 11, 3) := by decide +kernel
theorem dX0_init_13 : decode cX0_init 13 = .ok (.iconst 0, 1) := by decide +kernel
theorem dX0_init_14 : decode cX0_init 14 = .ok (.istore_n 1, 1) := by decide +kernel
theorem dX0_init_15 : decode cX0_init 15 = .ok (.iload_n 1, 1) := by decide +kernel
theorem dX0_init_16 : decode cX0_init 16 = .ok (.aload_n 0, 1) := by decide +kernel
theorem dX0_init_17 : decode cX0_init 17 = .ok (.getfield 11, 3) := by decide +kernel
theorem dX0_init_20 : decode cX0_init 20 = .ok (.arraylength, 1) := by decide +kernel
theorem dX0_init_21 : decode cX0_init 21 = .ok (.if_icmp .ge 22, 3) := by decide +kernel
theorem dX0_init_24 : decode cX0_init 24 = .ok (.aload_n 0, 1) := by decide +kernel
theorem dX0_init_25 : decode cX0_init 25 = .ok (.getfield 11, 3) := by decide +kernel
theorem dX0_init_28 : decode cX0_init 28 = .ok (.iload_n 1, 1) := by decide +kernel
theorem dX0_init_29 : decode cX0_init 29 = .ok (.new 9, 3) := by decide +kernel
theorem dX0_init_32 : decode cX0_init 32 = .ok (.dup, 1) := by decide +kernel
theorem dX0_init_33 : decode cX0_init 33 = .ok (.invokespecial 17, 3) := by decide +kernel
theorem dX0_init_36 : decode cX0_init 36 = .ok (.aastore, 1) := by decide +kernel
theorem dX0_init_37 : decode cX0_init 37 = .ok (.iinc 1 1, 3) := by decide +kernel
theorem dX0_init_40 : decode cX0_init 40 = .ok (.goto (-25), 3) := by decide +kernel
theorem dX0_init_43 : decode cX0_init 43 = .ok (.return_, 1) := by decide +kernel
theorem dX0_prepare_0 : decode cX0_prepare 0 = .ok (.aload_n 0, 1) := by decide +kernel
theorem dX0_prepare_1 : decode cX0_prepare 1 = .ok (.getfield 11, 3) := by decide +kernel
theorem dX0_prepare_4 : decode cX0_prepare 4 = .ok (.aload_n 0, 1) := by decide +kernel
theorem dX0_prepare_5 : decode cX0_prepare 5 = .ok (.getfield 18, 3) := by decide +kernel
theorem dX0_prepare_8 : decode cX0_prepare 8 = .ok (.aaload, 1) := by decide +kernel
theorem dX0_prepare_9 : decode cX0_prepare 9 = .ok (.aload_n 1, 1) := by decide +kernel
theorem dX0_prepare_10 : decode cX0_prepare 10 = .ok (.invokevirtual 22, 3) := by decide +kernel
theorem dX0_prepare_13 : decode cX0_prepare 13 = .ok (.return_, 1) := by decide +kernel
theorem dX0_recordUnlessError_0 : decode cX0_recordUnlessError 0 = .ok (.iload_n 1, 1) := by decide +kernel
theorem dX0_recordUnlessError_1 : decode cX0_recordUnlessError 1 = .ok (.ifCond .lt 55, 3) := by decide +kernel
theorem dX0_recordUnlessError_4 : decode cX0_recordUnlessError 4 = .ok (.aload_n 0, 1) := by decide +kernel
theorem dX0_recordUnlessError_5 : decode cX0_recordUnlessError 5 = .ok (.aload_n 0, 1) := by decide +kernel
theorem dX0_recordUnlessError_6 : decode cX0_recordUnlessError 6 = .ok (.getfield 18, 3) := by decide +kernel
theorem dX0_recordUnlessError_9 : decode cX0_recordUnlessError 9 = .ok (.iconst 1, 1) := by decide +kernel
theorem dX0_recordUnlessError_10 : decode cX0_recordUnlessError 10 = .ok (.iadd, 1) := by decide +kernel
theorem dX0_recordUnlessError_11 : decode cX0_recordUnlessError 11 = .ok (.aload_n 0, 1) := by decide +kernel
theorem dX0_recordUnlessError_12 : decode cX0_recordUnlessError 12 = .ok (.getfield 11, 3) := by decide +kernel
theorem dX0_recordUnlessError_15 : decode cX0_recordUnlessError 15 = .ok (.arraylength, 1) := by decide +kernel
theorem dX0_recordUnlessError_16 : decode cX0_recordUnlessError 16 = .ok (.if_icmp .ge 12, 3) := by decide +kernel
theorem dX0_recordUnlessError_19 : decode cX0_recordUnlessError 19 = .ok (.aload_n 0, 1) := by decide +kernel
theorem dX0_recordUnlessError_20 : decode cX0_recordUnlessError 20 = .ok (.getfield 18, 3) := by decide +kernel
theorem dX0_recordUnlessError_23 : decode cX0_recordUnlessError 23 = .ok (.iconst 1, 1) := by decide +kernel
theorem dX0_recordUnlessError_24 : decode cX0_recordUnlessError 24 = .ok (.iadd, 1) := by decide +kernel
theorem dX0_recordUnlessError_25 : decode cX0_recordUnlessError 25 = .ok (.goto 4, 3) := by decide +kernel
theorem dX0_recordUnlessError_28 : decode cX0_recordUnlessError 28 = .ok (.iconst 0, 1) := by decide +kernel
theorem dX0_recordUnlessError_29 : decode cX0_recordUnlessError 29 = .ok (.putfield 18, 3) := by decide +kernel
theorem dX0_recordUnlessError_32 : decode cX0_recordUnlessError 32 = .ok (.aload_n 0, 1) := by decide +kernel
theorem dX0_recordUnlessError_33 : decode cX0_recordUnlessError 33 = .ok (.aload_n 0, 1) := by decide +kernel
theorem dX0_recordUnlessError_34 : decode cX0_recordUnlessError 34 = .ok (.getfield 26, 3) := by decide +kernel
theorem dX0_recordUnlessError_37 : decode cX0_recordUnlessError 37 = .ok (.bipush 6, 2) := by decide +kernel
theorem dX0_recordUnlessError_39 : decode cX0_recordUnlessError 39 = .ok (.if_icmp .ge 12, 3) := by decide +kernel
theorem dX0_recordUnlessError_42 : decode cX0_recordUnlessError 42 = .ok (.aload_n 0, 1) := by decide +kernel
theorem dX0_recordUnlessError_43 : decode cX0_recordUnlessError 43 = .ok (.getfield 26, 3) := by decide +kernel
theorem dX0_recordUnlessError_46 : decode cX0_recordUnlessError 46 = .ok (.iconst 1, 1) := by decide +kernel
theorem dX0_recordUnlessError_47 : decode cX0_recordUnlessError 47 = .ok (.iadd, 1) := by decide +kernel
theorem dX0_recordUnlessError_48 : decode cX0_recordUnlessError 48 = .ok (.goto 5, 3) := by decide +kernel
theorem dX0_recordUnlessError_51 : decode cX0_recordUnlessError 51 = .ok (.bipush 6, 2) := by decide +kernel
theorem dX0_recordUnlessError_53 : decode cX0_recordUnlessError 53 = .ok (.putfield 26, 3) := by decide +kernel
theorem dX0_recordUnlessError_56 : decode cX0_recordUnlessError 56 = .ok (.iload_n 1, 1) := by decide +kernel
theorem dX0_recordUnlessError_57 : decode cX0_recordUnlessError 57 = .ok (.ireturn, 1) := by decide +kernel
theorem dX1_init_0 : decode cX1_init 0 = .ok (.aload_n 0, 1) := by decide +kernel
theorem dX1_init_1 : decode cX1_init 1 = .ok (.invokespecial 3, 3) := by decide +kernel
theorem dX1_init_4 : decode cX1_init 4 = .ok (.return_, 1) := by decide +kernel
theorem dX1_becomeNew_0 : decode cX1_becomeNew 0 = .ok (.aload_n 0, 1) := by decide +kernel
theorem dX1_becomeNew_1 : decode cX1_becomeNew 1 = .ok (.iload_n 1, 1) := by decide +kernel
theorem dX1_becomeNew_2 : decode cX1_becomeNew 2 = .ok (.putfield 9, 3) := by decide +kernel
theorem dX1_becomeNew_5 : decode cX1_becomeNew 5 = .ok (.aload_n 0, 1) := by decide +kernel
theorem dX1_becomeNew_6 : decode cX1_becomeNew 6 = .ok (.iconst 0, 1) := by decide +kernel
theorem dX1_becomeNew_7 : decode cX1_becomeNew 7 = .ok (.putfield 15, 3) := by decide +kernel
theorem dX1_becomeNew_10 : decode cX1_becomeNew 10 = .ok (.aload_n 0, 1) := by decide +kernel
theorem dX1_becomeNew_11 : decode cX1_becomeNew 11 = .ok (.iconst 0, 1) := by decide +kernel
theorem dX1_becomeNew_12 : decode cX1_becomeNew 12 = .ok (.putfield 18, 3) := by decide +kernel
theorem dX1_becomeNew_15 : decode cX1_becomeNew 15 = .ok (.aload_n 0, 1) := by decide +kernel
theorem dX1_becomeNew_16 : decode cX1_becomeNew 16 = .ok (.iconst 0, 1) := by decide +kernel
theorem dX1_becomeNew_17 : decode cX1_becomeNew 17 = .ok (.putfield 21, 3) := by decide +kernel
theorem dX1_becomeNew_20 : decode cX1_becomeNew 20 = .ok (.aload_n 0, 1) := by decide +kernel
theorem dX1_becomeNew_21 : decode cX1_becomeNew 21 = .ok (.bipush (-6), 2) := by decide +kernel
theorem dX1_becomeNew_23 : decode cX1_becomeNew 23 = .ok (.putfield 25, 3) := by decide +kernel
theorem dX1_becomeNew_26 : decode cX1_becomeNew 26 = .ok (.aload_n 0, 1) := by decide +kernel
theorem dX1_becomeNew_27 : decode cX1_becomeNew 27 = .ok (.iconst 0, 1) := by decide +kernel
theorem dX1_becomeNew_28 : decode cX1_becomeNew 28 = .ok (.putfield 28, 3) := by decide +kernel
theorem dX1_becomeNew_31 : decode cX1_becomeNew 31 = .ok (.aload_n 0, 1) := by decide +kernel
theorem dX1_becomeNew_32 : decode cX1_becomeNew 32 = .ok (.iconst 0, 1) := by decide +kernel
theorem dX1_becomeNew_33 : decode cX1_becomeNew 33 = .ok (.putfield 31, 3) := by decide +kernel
theorem dX1_becomeNew_36 : decode cX1_becomeNew 36 = .ok (.aload_n 0, 1) := by decide +kernel
theorem dX1_becomeNew_37 : decode cX1_becomeNew 37 = .ok (.iconst 0, 1) := by decide +kernel
theorem dX1_becomeNew_38 : decode cX1_becomeNew 38 = .ok (.putfield 34, 3) := by decide +kernel
theorem dX1_becomeNew_41 : decode cX1_becomeNew 41 = .ok (.aload_n 0, 1) := by decide +kernel
theorem dX1_becomeNew_42 : decode cX1_becomeNew 42 = .ok (.iconst 0, 1) := by decide +kernel
theorem dX1_becomeNew_43 : decode cX1_becomeNew 43 = .ok (.putfield 37, 3) := by decide +kernel
theorem dX1_becomeNew_46 : decode cX1_becomeNew 46 = .ok (.aload_n 0, 1) := by decide +kernel
theorem dX1_becomeNew_47 : decode cX1_becomeNew 47 = .ok (.iconst 0, 1) := by decide +kernel
theorem dX1_becomeNew_48 : decode cX1_becomeNew 48 = .ok (.putfield 40, 3) := by decide +kernel
theorem dX1_becomeNew_51 : decode cX1_becomeNew 51 = .ok (.aload_n 0, 1) := by decide +kernel
theorem dX1_becomeNew_52 : decode cX1_becomeNew 52 = .ok (.iconst 0, 1) := by decide +kernel
theorem dX1_becomeNew_53 : decode cX1_becomeNew 53 = .ok (.putfield 43, 3) := by decide +kernel
theorem dX1_becomeNew_56 : decode cX1_becomeNew 56 = .ok (.aload_n 0, 1) := by decide +kernel
theorem dX1_becomeNew_57 : decode cX1_becomeNew 57 = .ok (.iconst 0, 1) := by decide +kernel
theorem dX1_becomeNew_58 : decode cX1_becomeNew 58 = .ok (.putfield 46, 3) := by decide +kernel
theorem dX1_becomeNew_61 : decode cX1_becomeNew 61 = .ok (.aload_n 0, 1) := by decide +kernel
theorem dX1_becomeNew_62 : decode cX1_becomeNew 62 = .ok (.iconst 0, 1) := by decide +kernel
theorem dX1_becomeNew_63 : decode cX1_becomeNew 63 = .ok (.putfield 49, 3) := by decide +kernel
theorem dX1_becomeNew_66 : decode cX1_becomeNew 66 = .ok (.return_, 1) := by decide +kernel
theorem dX1_shape_0 : decode cX1_shape 0 = .ok (.aload_n 0, 1) := by decide +kernel
theorem dX1_shape_1 : decode cX1_shape 1 = .ok (.iload_n 1, 1) := by decide +kernel
theorem dX1_shape_2 : decode cX1_shape 2 = .ok (.putfield 52, 3) := by decide +kernel
theorem dX1_shape_5 : decode cX1_shape 5 = .ok (.aload_n 0, 1) := by decide +kernel
theorem dX1_shape_6 : decode cX1_shape 6 = .ok (.iload_n 2, 1) := by decide +kernel
theorem dX1_shape_7 : decode cX1_shape 7 = .ok (.putfield 55, 3) := by decide +kernel
theorem dX1_shape_10 : decode cX1_shape 10 = .ok (.aload_n 0, 1) := by decide +kernel
theorem dX1_shape_11 : decode cX1_shape 11 = .ok (.iload_n 3, 1) := by decide +kernel
theorem dX1_shape_12 : decode cX1_shape 12 = .ok (.putfield 58, 3) := by decide +kernel
theorem dX1_shape_15 : decode cX1_shape 15 = .ok (.return_, 1) := by decide +kernel
theorem dX1_copyFrom_0 : decode cX1_copyFrom 0 = .ok (.aload_n 0, 1) := by decide +kernel
theorem dX1_copyFrom_1 : decode cX1_copyFrom 1 = .ok (.aload_n 1, 1) := by decide +kernel
theorem dX1_copyFrom_2 : decode cX1_copyFrom 2 = .ok (.getfield 52, 3) := by decide +kernel
theorem dX1_copyFrom_5 : decode cX1_copyFrom 5 = .ok (.putfield 52, 3) := by decide +kernel
theorem dX1_copyFrom_8 : decode cX1_copyFrom 8 = .ok (.aload_n 0, 1) := by decide +kernel
theorem dX1_copyFrom_9 : decode cX1_copyFrom 9 = .ok (.aload_n 1, 1) := by decide +kernel
theorem dX1_copyFrom_10 : decode cX1_copyFrom 10 = .ok (.getfield 55, 3) := by decide +kernel
theorem dX1_copyFrom_13 : decode cX1_copyFrom 13 = .ok (.putfield 55, 3) := by decide +kernel
theorem dX1_copyFrom_16 : decode cX1_copyFrom 16 = .ok (.aload_n 0, 1) := by decide +kernel
theorem dX1_copyFrom_17 : decode cX1_copyFrom 17 = .ok (.aload_n 1, 1) := by decide +kernel
theorem dX1_copyFrom_18 : decode cX1_copyFrom 18 = .ok (.getfield 58, 3) := by decide +kernel
theorem dX1_copyFrom_21 : decode cX1_copyFrom 21 = .ok (.putfield 58, 3) := by decide +kernel
theorem dX1_copyFrom_24 : decode cX1_copyFrom 24 = .ok (.aload_n 0, 1) := by decide +kernel
theorem dX1_copyFrom_25 : decode cX1_copyFrom 25 = .ok (.aload_n 1, 1) := by decide +kernel
theorem dX1_copyFrom_26 : decode cX1_copyFrom 26 = .ok (.getfield 9, 3) := by decide +kernel
theorem dX1_copyFrom_29 : decode cX1_copyFrom 29 = .ok (.putfield 9, 3) := by decide +kernel
theorem dX1_copyFrom_32 : decode cX1_copyFrom 32 = .ok (.aload_n 0, 1) := by decide +kernel
theorem dX1_copyFrom_33 : decode cX1_copyFrom 33 = .ok (.aload_n 1, 1) := by decide +kernel
theorem dX1_copyFrom_34 : decode cX1_copyFrom 34 = .ok (.getfield 15, 3) := by decide +kernel
theorem dX1_copyFrom_37 : decode cX1_copyFrom 37 = .ok (.putfield 15, 3) := by decide +kernel
theorem dX1_copyFrom_40 : decode cX1_copyFrom 40 = .ok (.aload_n 0, 1) := by decide +kernel
theorem dX1_copyFrom_41 : decode cX1_copyFrom 41 = .ok (.aload_n 1, 1) := by decide +kernel
theorem dX1_copyFrom_42 : decode cX1_copyFrom 42 = .ok (.getfield 18, 3) := by decide +kernel
theorem dX1_copyFrom_45 : decode cX1_copyFrom 45 = .ok (.putfield 18, 3) := by decide +kernel
theorem dX1_copyFrom_48 : decode cX1_copyFrom 48 = .ok (.aload_n 0, 1) := by decide +kernel
theorem dX1_copyFrom_49 : decode cX1_copyFrom 49 = .ok (.aload_n 1, 1) := by decide +kernel
theorem dX1_copyFrom_50 : decode cX1_copyFrom 50 = .ok (.getfield 21, 3) := by decide +kernel
theorem dX1_copyFrom_53 : decode cX1_copyFrom 53 = .ok (.putfield 21, 3) := by decide +kernel
theorem dX1_copyFrom_56 : decode cX1_copyFrom 56 = .ok (.aload_n 0, 1) := by decide +kernel
theorem dX1_copyFrom_57 : decode cX1_copyFrom 57 = .ok (.aload_n 1, 1) := by decide +kernel
theorem dX1_copyFrom_58 : decode cX1_copyFrom 58 = .ok (.getfield 25, 3) := by decide +kernel
theorem dX1_copyFrom_61 : decode cX1_copyFrom 61 = .ok (.putfield 25, 3) := by decide +kernel
theorem dX1_copyFrom_64 : decode cX1_copyFrom 64 = .ok (.aload_n 0, 1) := by decide +kernel
theorem dX1_copyFrom_65 : decode cX1_copyFrom 65 = .ok (.aload_n 1, 1) := by decide +kernel
theorem dX1_copyFrom_66 : decode cX1_copyFrom 66 = .ok (.getfield 28, 3) := by decide +kernel
theorem dX1_copyFrom_69 : decode cX1_copyFrom 69 = .ok (.putfield 28, 3) := by decide +kernel
theorem dX1_copyFrom_72 : decode cX1_copyFrom 72 = .ok (.aload_n 0, 1) := by decide +kernel
theorem dX1_copyFrom_73 : decode cX1_copyFrom 73 = .ok (.aload_n 1, 1) := by decide +kernel
theorem dX1_copyFrom_74 : decode cX1_copyFrom 74 = .ok (.getfield 31, 3) := by decide +kernel
theorem dX1_copyFrom_77 : decode cX1_copyFrom 77 = .ok (.putfield 31, 3) := by decide +kernel
theorem dX1_copyFrom_80 : decode cX1_copyFrom 80 = .ok (.aload_n 0, 1) := by decide +kernel
theorem dX1_copyFrom_81 : decode cX1_copyFrom 81 = .ok (.aload_n 1, 1) := by decide +kernel
theorem dX1_copyFrom_82 : decode cX1_copyFrom 82 = .ok (.getfield 34, 3) := by decide +kernel
theorem dX1_copyFrom_85 : decode cX1_copyFrom 85 = .ok (.putfield 34, 3) := by decide +kernel
theorem dX1_copyFrom_88 : decode cX1_copyFrom 88 = .ok (.aload_n 0, 1) := by decide +kernel
theorem dX1_copyFrom_89 : decode cX1_copyFrom 89 = .ok (.aload_n 1, 1) := by decide +kernel
theorem dX1_copyFrom_90 : decode cX1_copyFrom 90 = .ok (.getfield 37, 3) := by decide +kernel
theorem dX1_copyFrom_93 : decode cX1_copyFrom 93 = .ok (.putfield 37, 3) := by decide +kernel
theorem dX1_copyFrom_96 : decode cX1_copyFrom 96 = .ok (.aload_n 0, 1) := by decide +kernel
theorem dX1_copyFrom_97 : decode cX1_copyFrom 97 = .ok (.aload_n 1, 1) := by decide +kernel
theorem dX1_copyFrom_98 : decode cX1_copyFrom 98 = .ok (.getfield 40, 3) := by decide +kernel
theorem dX1_copyFrom_101 : decode cX1_copyFrom 101 = .ok (.putfield 40, 3) := by decide +kernel
theorem dX1_copyFrom_104 : decode cX1_copyFrom 104 = .ok (.aload_n 0, 1) := by decide +kernel
theorem dX1_copyFrom_105 : decode cX1_copyFrom 105 = .ok (.aload_n 1, 1) := by decide +kernel
theorem dX1_copyFrom_106 : decode cX1_copyFrom 106 = .ok (.getfield 43, 3) := by decide +kernel
theorem dX1_copyFrom_109 : decode cX1_copyFrom 109 = .ok (.putfield 43, 3) := by decide +kernel
theorem dX1_copyFrom_112 : decode cX1_copyFrom 112 = .ok (.aload_n 0, 1) := by decide +kernel
theorem dX1_copyFrom_113 : decode cX1_copyFrom 113 = .ok (.aload_n 1, 1) := by decide +kernel
theorem dX1_copyFrom_114 : decode cX1_copyFrom 114 = .ok (.getfield 46, 3) := by decide +kernel
theorem dX1_copyFrom_117 : decode cX1_copyFrom 117 = .ok (.putfield 46, 3) := by decide +kernel
theorem dX1_copyFrom_120 : decode cX1_copyFrom 120 = .ok (.aload_n 0, 1) := by decide +kernel
theorem dX1_copyFrom_121 : decode cX1_copyFrom 121 = .ok (.aload_n 1, 1) := by decide +kernel
theorem dX1_copyFrom_122 : decode cX1_copyFrom 122 = .ok (.getfield 49, 3) := by decide +kernel
theorem dX1_copyFrom_125 : decode cX1_copyFrom 125 = .ok (.putfield 49, 3) := by decide +kernel
theorem dX1_copyFrom_128 : decode cX1_copyFrom 128 = .ok (.return_, 1) := by decide +kernel
theorem dX1_presentRank_0 : decode cX1_presentRank 0 = .ok (.aload_n 0, 1) := by decide +kernel
theorem dX1_presentRank_1 : decode cX1_presentRank 1 = .ok (.getfield 18, 3) := by decide +kernel
theorem dX1_presentRank_4 : decode cX1_presentRank 4 = .ok (.ifCond .eq 15, 3) := by decide +kernel
theorem dX1_presentRank_7 : decode cX1_presentRank 7 = .ok (.iload_n 1, 1) := by decide +kernel
theorem dX1_presentRank_8 : decode cX1_presentRank 8 = .ok (.ifCond .le 11, 3) := by decide +kernel
theorem dX1_presentRank_11 : decode cX1_presentRank 11 = .ok (.aload_n 0, 1) := by decide +kernel
theorem dX1_presentRank_12 : decode cX1_presentRank 12 = .ok (.getfield 52, 3) := by decide +kernel
theorem dX1_presentRank_15 : decode cX1_presentRank 15 = .ok (.iload_n 2, 1) := by decide +kernel
theorem dX1_presentRank_16 : decode cX1_presentRank 16 = .ok (.if_icmp .lt 8, 3) := by decide +kernel
theorem dX1_presentRank_19 : decode cX1_presentRank 19 = .ok (.aload_n 0, 1) := by decide +kernel
theorem dX1_presentRank_20 : decode cX1_presentRank 20 = .ok (.getfield 52, 3) := by decide +kernel
theorem dX1_presentRank_23 : decode cX1_presentRank 23 = .ok (.ireturn, 1) := by decide +kernel
theorem dX1_presentRank_24 : decode cX1_presentRank 24 = .ok (.aload_n 0, 1) := by decide +kernel
theorem dX1_presentRank_25 : decode cX1_presentRank 25 = .ok (.getfield 52, 3) := by decide +kernel
theorem dX1_presentRank_28 : decode cX1_presentRank 28 = .ok (.aload_n 0, 1) := by decide +kernel
theorem dX1_presentRank_29 : decode cX1_presentRank 29 = .ok (.getfield 21, 3) := by decide +kernel
theorem dX1_presentRank_32 : decode cX1_presentRank 32 = .ok (.iload_n 1, 1) := by decide +kernel
theorem dX1_presentRank_33 : decode cX1_presentRank 33 = .ok (.idiv, 1) := by decide +kernel
theorem dX1_presentRank_34 : decode cX1_presentRank 34 = .ok (.iadd, 1) := by decide +kernel
theorem dX1_presentRank_35 : decode cX1_presentRank 35 = .ok (.istore_n 3, 1) := by decide +kernel
theorem dX1_presentRank_36 : decode cX1_presentRank 36 = .ok (.iload_n 3, 1) := by decide +kernel
theorem dX1_presentRank_37 : decode cX1_presentRank 37 = .ok (.iload_n 2, 1) := by decide +kernel
theorem dX1_presentRank_38 : decode cX1_presentRank 38 = .ok (.if_icmp .ge 7, 3) := by decide +kernel
theorem dX1_presentRank_41 : decode cX1_presentRank 41 = .ok (.iload_n 3, 1) := by decide +kernel
theorem dX1_presentRank_42 : decode cX1_presentRank 42 = .ok (.goto 4, 3) := by decide +kernel
theorem dX1_presentRank_45 : decode cX1_presentRank 45 = .ok (.iload_n 2, 1) := by decide +kernel
theorem dX1_presentRank_46 : decode cX1_presentRank 46 = .ok (.ireturn, 1) := by decide +kernel
theorem dX1_mayBegin_0 : decode cX1_mayBegin 0 = .ok (.aload_n 0, 1) := by decide +kernel
theorem dX1_mayBegin_1 : decode cX1_mayBegin 1 = .ok (.getfield 18, 3) := by decide +kernel
theorem dX1_mayBegin_4 : decode cX1_mayBegin 4 = .ok (.ifCond .eq 23, 3) := by decide +kernel
theorem dX1_mayBegin_7 : decode cX1_mayBegin 7 = .ok (.aload_n 0, 1) := by decide +kernel
theorem dX1_mayBegin_8 : decode cX1_mayBegin 8 = .ok (.getfield 15, 3) := by decide +kernel
theorem dX1_mayBegin_11 : decode cX1_mayBegin 11 = .ok (.ifCond .ne 16, 3) := by decide +kernel
theorem dX1_mayBegin_14 : decode cX1_mayBegin 14 = .ok (.aload_n 0, 1) := by decide +kernel
theorem dX1_mayBegin_15 : decode cX1_mayBegin 15 = .ok (.getfield 25, 3) := by decide +kernel
theorem dX1_mayBegin_18 : decode cX1_mayBegin 18 = .ok (.bipush (-6), 2) := by decide +kernel
theorem dX1_mayBegin_20 : decode cX1_mayBegin 20 = .ok (.if_icmp .ne 7, 3) := by decide +kernel
theorem dX1_mayBegin_23 : decode cX1_mayBegin 23 = .ok (.iconst 1, 1) := by decide +kernel
theorem dX1_mayBegin_24 : decode cX1_mayBegin 24 = .ok (.goto 4, 3) := by decide +kernel
theorem dX1_mayBegin_27 : decode cX1_mayBegin 27 = .ok (.iconst 0, 1) := by decide +kernel
theorem dX1_mayBegin_28 : decode cX1_mayBegin 28 = .ok (.ireturn, 1) := by decide +kernel
theorem dX1_takeEdge_0 : decode cX1_takeEdge 0 = .ok (.aload_n 0, 1) := by decide +kernel
theorem dX1_takeEdge_1 : decode cX1_takeEdge 1 = .ok (.dup, 1) := by decide +kernel
theorem dX1_takeEdge_2 : decode cX1_takeEdge 2 = .ok (.getfield 31, 3) := by decide +kernel
theorem dX1_takeEdge_5 : decode cX1_takeEdge 5 = .ok (.iconst 1, 1) := by decide +kernel
theorem dX1_takeEdge_6 : decode cX1_takeEdge 6 = .ok (.iadd, 1) := by decide +kernel
theorem dX1_takeEdge_7 : decode cX1_takeEdge 7 = .ok (.putfield 31, 3) := by decide +kernel
theorem dX1_takeEdge_10 : decode cX1_takeEdge 10 = .ok (.aload_n 0, 1) := by decide +kernel
theorem dX1_takeEdge_11 : decode cX1_takeEdge 11 = .ok (.getfield 18, 3) := by decide +kernel
theorem dX1_takeEdge_14 : decode cX1_takeEdge 14 = .ok (.ifCond .ne 14, 3) := by decide +kernel
theorem dX1_takeEdge_17 : decode cX1_takeEdge 17 = .ok (.aload_n 0, 1) := by decide +kernel
theorem dX1_takeEdge_18 : decode cX1_takeEdge 18 = .ok (.getfield 15, 3) := by decide +kernel
theorem dX1_takeEdge_21 : decode cX1_takeEdge 21 = .ok (.ifCond .eq 19, 3) := by decide +kernel
theorem dX1_takeEdge_24 : decode cX1_takeEdge 24 = .ok (.iload_n 1, 1) := by decide +kernel
theorem dX1_takeEdge_25 : decode cX1_takeEdge 25 = .ok (.ifCond .ne 15, 3) := by decide +kernel
theorem dX1_takeEdge_28 : decode cX1_takeEdge 28 = .ok (.aload_n 0, 1) := by decide +kernel
theorem dX1_takeEdge_29 : decode cX1_takeEdge 29 = .ok (.dup, 1) := by decide +kernel
theorem dX1_takeEdge_30 : decode cX1_takeEdge 30 = .ok (.getfield 34, 3) := by decide +kernel
theorem dX1_takeEdge_33 : decode cX1_takeEdge 33 = .ok (.iconst 1, 1) := by decide +kernel
theorem dX1_takeEdge_34 : decode cX1_takeEdge 34 = .ok (.iadd, 1) := by decide +kernel
theorem dX1_takeEdge_35 : decode cX1_takeEdge 35 = .ok (.putfield 34, 3) := by decide +kernel
theorem dX1_takeEdge_38 : decode cX1_takeEdge 38 = .ok (.iconst 0, 1) := by decide +kernel
theorem dX1_takeEdge_39 : decode cX1_takeEdge 39 = .ok (.ireturn, 1) := by decide +kernel
theorem dX1_takeEdge_40 : decode cX1_takeEdge 40 = .ok (.aload_n 0, 1) := by decide +kernel
theorem dX1_takeEdge_41 : decode cX1_takeEdge 41 = .ok (.iconst 1, 1) := by decide +kernel
theorem dX1_takeEdge_42 : decode cX1_takeEdge 42 = .ok (.putfield 18, 3) := by decide +kernel
theorem dX1_takeEdge_45 : decode cX1_takeEdge 45 = .ok (.aload_n 0, 1) := by decide +kernel
theorem dX1_takeEdge_46 : decode cX1_takeEdge 46 = .ok (.iconst 0, 1) := by decide +kernel
theorem dX1_takeEdge_47 : decode cX1_takeEdge 47 = .ok (.putfield 21, 3) := by decide +kernel
theorem dX1_takeEdge_50 : decode cX1_takeEdge 50 = .ok (.iconst 1, 1) := by decide +kernel
theorem dX1_takeEdge_51 : decode cX1_takeEdge 51 = .ok (.ireturn, 1) := by decide +kernel
theorem dX1_moveDevice_0 : decode cX1_moveDevice 0 = .ok (.iconst 1, 1) := by decide +kernel
theorem dX1_moveDevice_1 : decode cX1_moveDevice 1 = .ok (.iload_n 1, 1) := by decide +kernel
theorem dX1_moveDevice_2 : decode cX1_moveDevice 2 = .ok (.ishl, 1) := by decide +kernel
theorem dX1_moveDevice_3 : decode cX1_moveDevice 3 = .ok (.istore_n 3, 1) := by decide +kernel
theorem dX1_moveDevice_4 : decode cX1_moveDevice 4 = .ok (.aload_n 0, 1) := by decide +kernel
theorem dX1_moveDevice_5 : decode cX1_moveDevice 5 = .ok (.iload_n 2, 1) := by decide +kernel
theorem dX1_moveDevice_6 : decode cX1_moveDevice 6 = .ok (.ifCond .eq 12, 3) := by decide +kernel
theorem dX1_moveDevice_9 : decode cX1_moveDevice 9 = .ok (.aload_n 0, 1) := by decide +kernel
theorem dX1_moveDevice_10 : decode cX1_moveDevice 10 = .ok (.getfield 28, 3) := by decide +kernel
theorem dX1_moveDevice_13 : decode cX1_moveDevice 13 = .ok (.iload_n 3, 1) := by decide +kernel
theorem dX1_moveDevice_14 : decode cX1_moveDevice 14 = .ok (.ior, 1) := by decide +kernel
theorem dX1_moveDevice_15 : decode cX1_moveDevice 15 = .ok (.goto 11, 3) := by decide +kernel
theorem dX1_moveDevice_18 : decode cX1_moveDevice 18 = .ok (.aload_n 0, 1) := by decide +kernel
theorem dX1_moveDevice_19 : decode cX1_moveDevice 19 = .ok (.getfield 28, 3) := by decide +kernel
theorem dX1_moveDevice_22 : decode cX1_moveDevice 22 = .ok (.iload_n 3, 1) := by decide +kernel
theorem dX1_moveDevice_23 : decode cX1_moveDevice 23 = .ok (.iconst (-1), 1) := by decide +kernel
theorem dX1_moveDevice_24 : decode cX1_moveDevice 24 = .ok (.ixor, 1) := by decide +kernel
theorem dX1_moveDevice_25 : decode cX1_moveDevice 25 = .ok (.iand, 1) := by decide +kernel
theorem dX1_moveDevice_26 : decode cX1_moveDevice 26 = .ok (.putfield 28, 3) := by decide +kernel
theorem dX1_moveDevice_29 : decode cX1_moveDevice 29 = .ok (.aload_n 0, 1) := by decide +kernel
theorem dX1_moveDevice_30 : decode cX1_moveDevice 30 = .ok (.invokevirtual 61, 3) := by decide +kernel
theorem dX1_moveDevice_33 : decode cX1_moveDevice 33 = .ok (.return_, 1) := by decide +kernel
theorem dX1_followDevices_0 : decode cX1_followDevices 0 = .ok (.aload_n 0, 1) := by decide +kernel
theorem dX1_followDevices_1 : decode cX1_followDevices 1 = .ok (.getfield 28, 3) := by decide +kernel
theorem dX1_followDevices_4 : decode cX1_followDevices 4 = .ok (.ifCond .eq 16, 3) := by decide +kernel
theorem dX1_followDevices_7 : decode cX1_followDevices 7 = .ok (.aload_n 0, 1) := by decide +kernel
theorem dX1_followDevices_8 : decode cX1_followDevices 8 = .ok (.getfield 25, 3) := by decide +kernel
theorem dX1_followDevices_11 : decode cX1_followDevices 11 = .ok (.bipush (-6), 2) := by decide +kernel
theorem dX1_followDevices_13 : decode cX1_followDevices 13 = .ok (.if_icmp .ne 7, 3) := by decide +kernel
theorem dX1_followDevices_16 : decode cX1_followDevices 16 = .ok (.iconst 1, 1) := by decide +kernel
theorem dX1_followDevices_17 : decode cX1_followDevices 17 = .ok (.goto 4, 3) := by decide +kernel
theorem dX1_followDevices_20 : decode cX1_followDevices 20 = .ok (.iconst 0, 1) := by decide +kernel
theorem dX1_followDevices_21 : decode cX1_followDevices 21 = .ok (.istore_n 1, 1) := by decide +kernel
theorem dX1_followDevices_22 : decode cX1_followDevices 22 = .ok (.iload_n 1, 1) := by decide +kernel
theorem dX1_followDevices_23 : decode cX1_followDevices 23 = .ok (.ifCond .eq 15, 3) := by decide +kernel
theorem dX1_followDevices_26 : decode cX1_followDevices 26 = .ok (.aload_n 0, 1) := by decide +kernel
theorem dX1_followDevices_27 : decode cX1_followDevices 27 = .ok (.getfield 18, 3) := by decide +kernel
theorem dX1_followDevices_30 : decode cX1_followDevices 30 = .ok (.ifCond .ne 8, 3) := by decide +kernel
theorem dX1_followDevices_33 : decode cX1_followDevices 33 = .ok (.aload_n 0, 1) := by decide +kernel
theorem dX1_followDevices_34 : decode cX1_followDevices 34 = .ok (.iconst 0, 1) := by decide +kernel
theorem dX1_followDevices_35 : decode cX1_followDevices 35 = .ok (.putfield 21, 3) := by decide +kernel
theorem dX1_followDevices_38 : decode cX1_followDevices 38 = .ok (.aload_n 0, 1) := by decide +kernel
theorem dX1_followDevices_39 : decode cX1_followDevices 39 = .ok (.iload_n 1, 1) := by decide +kernel
theorem dX1_followDevices_40 : decode cX1_followDevices 40 = .ok (.putfield 18, 3) := by decide +kernel
theorem dX1_followDevices_43 : decode cX1_followDevices 43 = .ok (.return_, 1) := by decide +kernel
theorem dX1_enterNest_0 : decode cX1_enterNest 0 = .ok (.aload_n 0, 1) := by decide +kernel
theorem dX1_enterNest_1 : decode cX1_enterNest 1 = .ok (.iload_n 1, 1) := by decide +kernel
theorem dX1_enterNest_2 : decode cX1_enterNest 2 = .ok (.putfield 25, 3) := by decide +kernel
theorem dX1_enterNest_5 : decode cX1_enterNest 5 = .ok (.aload_n 0, 1) := by decide +kernel
theorem dX1_enterNest_6 : decode cX1_enterNest 6 = .ok (.iconst 0, 1) := by decide +kernel
theorem dX1_enterNest_7 : decode cX1_enterNest 7 = .ok (.putfield 18, 3) := by decide +kernel
theorem dX1_enterNest_10 : decode cX1_enterNest 10 = .ok (.aload_n 0, 1) := by decide +kernel
theorem dX1_enterNest_11 : decode cX1_enterNest 11 = .ok (.dup, 1) := by decide +kernel
theorem dX1_enterNest_12 : decode cX1_enterNest 12 = .ok (.getfield 37, 3) := by decide +kernel
theorem dX1_enterNest_15 : decode cX1_enterNest 15 = .ok (.iconst 1, 1) := by decide +kernel
theorem dX1_enterNest_16 : decode cX1_enterNest 16 = .ok (.iadd, 1) := by decide +kernel
theorem dX1_enterNest_17 : decode cX1_enterNest 17 = .ok (.putfield 37, 3) := by decide +kernel
theorem dX1_enterNest_20 : decode cX1_enterNest 20 = .ok (.aload_n 0, 1) := by decide +kernel
theorem dX1_enterNest_21 : decode cX1_enterNest 21 = .ok (.dup, 1) := by decide +kernel
theorem dX1_enterNest_22 : decode cX1_enterNest 22 = .ok (.getfield 46, 3) := by decide +kernel
theorem dX1_enterNest_25 : decode cX1_enterNest 25 = .ok (.aload_n 0, 1) := by decide +kernel
theorem dX1_enterNest_26 : decode cX1_enterNest 26 = .ok (.getfield 21, 3) := by decide +kernel
theorem dX1_enterNest_29 : decode cX1_enterNest 29 = .ok (.iadd, 1) := by decide +kernel
theorem dX1_enterNest_30 : decode cX1_enterNest 30 = .ok (.putfield 46, 3) := by decide +kernel
theorem dX1_enterNest_33 : decode cX1_enterNest 33 = .ok (.aload_n 0, 1) := by decide +kernel
theorem dX1_enterNest_34 : decode cX1_enterNest 34 = .ok (.getfield 21, 3) := by decide +kernel
theorem dX1_enterNest_37 : decode cX1_enterNest 37 = .ok (.aload_n 0, 1) := by decide +kernel
theorem dX1_enterNest_38 : decode cX1_enterNest 38 = .ok (.getfield 43, 3) := by decide +kernel
theorem dX1_enterNest_41 : decode cX1_enterNest 41 = .ok (.if_icmp .le 11, 3) := by decide +kernel
theorem dX1_enterNest_44 : decode cX1_enterNest 44 = .ok (.aload_n 0, 1) := by decide +kernel
theorem dX1_enterNest_45 : decode cX1_enterNest 45 = .ok (.aload_n 0, 1) := by decide +kernel
theorem dX1_enterNest_46 : decode cX1_enterNest 46 = .ok (.getfield 21, 3) := by decide +kernel
theorem dX1_enterNest_49 : decode cX1_enterNest 49 = .ok (.putfield 43, 3) := by decide +kernel
theorem dX1_enterNest_52 : decode cX1_enterNest 52 = .ok (.aload_n 0, 1) := by decide +kernel
theorem dX1_enterNest_53 : decode cX1_enterNest 53 = .ok (.getfield 58, 3) := by decide +kernel
theorem dX1_enterNest_56 : decode cX1_enterNest 56 = .ok (.ifCond .le 24, 3) := by decide +kernel
theorem dX1_enterNest_59 : decode cX1_enterNest 59 = .ok (.aload_n 0, 1) := by decide +kernel
theorem dX1_enterNest_60 : decode cX1_enterNest 60 = .ok (.getfield 21, 3) := by decide +kernel
theorem dX1_enterNest_63 : decode cX1_enterNest 63 = .ok (.aload_n 0, 1) := by decide +kernel
theorem dX1_enterNest_64 : decode cX1_enterNest 64 = .ok (.getfield 58, 3) := by decide +kernel
theorem dX1_enterNest_67 : decode cX1_enterNest 67 = .ok (.if_icmp .le 13, 3) := by decide +kernel
theorem dX1_enterNest_70 : decode cX1_enterNest 70 = .ok (.aload_n 0, 1) := by decide +kernel
theorem dX1_enterNest_71 : decode cX1_enterNest 71 = .ok (.dup, 1) := by decide +kernel
theorem dX1_enterNest_72 : decode cX1_enterNest 72 = .ok (.getfield 49, 3) := by decide +kernel
theorem dX1_enterNest_75 : decode cX1_enterNest 75 = .ok (.iconst 1, 1) := by decide +kernel
theorem dX1_enterNest_76 : decode cX1_enterNest 76 = .ok (.iadd, 1) := by decide +kernel
theorem dX1_enterNest_77 : decode cX1_enterNest 77 = .ok (.putfield 49, 3) := by decide +kernel
theorem dX1_enterNest_80 : decode cX1_enterNest 80 = .ok (.return_, 1) := by decide +kernel
theorem dX1_leaveNest_0 : decode cX1_leaveNest 0 = .ok (.aload_n 0, 1) := by decide +kernel
theorem dX1_leaveNest_1 : decode cX1_leaveNest 1 = .ok (.bipush (-6), 2) := by decide +kernel
theorem dX1_leaveNest_3 : decode cX1_leaveNest 3 = .ok (.putfield 25, 3) := by decide +kernel
theorem dX1_leaveNest_6 : decode cX1_leaveNest 6 = .ok (.aload_n 0, 1) := by decide +kernel
theorem dX1_leaveNest_7 : decode cX1_leaveNest 7 = .ok (.dup, 1) := by decide +kernel
theorem dX1_leaveNest_8 : decode cX1_leaveNest 8 = .ok (.getfield 40, 3) := by decide +kernel
theorem dX1_leaveNest_11 : decode cX1_leaveNest 11 = .ok (.iconst 1, 1) := by decide +kernel
theorem dX1_leaveNest_12 : decode cX1_leaveNest 12 = .ok (.iadd, 1) := by decide +kernel
theorem dX1_leaveNest_13 : decode cX1_leaveNest 13 = .ok (.putfield 40, 3) := by decide +kernel
theorem dX1_leaveNest_16 : decode cX1_leaveNest 16 = .ok (.aload_n 0, 1) := by decide +kernel
theorem dX1_leaveNest_17 : decode cX1_leaveNest 17 = .ok (.getfield 9, 3) := by decide +kernel
theorem dX1_leaveNest_20 : decode cX1_leaveNest 20 = .ok (.ifCond .eq 22, 3) := by decide +kernel
theorem dX1_leaveNest_23 : decode cX1_leaveNest 23 = .ok (.aload_n 0, 1) := by decide +kernel
theorem dX1_leaveNest_24 : decode cX1_leaveNest 24 = .ok (.dup, 1) := by decide +kernel
theorem dX1_leaveNest_25 : decode cX1_leaveNest 25 = .ok (.getfield 28, 3) := by decide +kernel
theorem dX1_leaveNest_28 : decode cX1_leaveNest 28 = .ok (.aload_n 0, 1) := by decide +kernel
theorem dX1_leaveNest_29 : decode cX1_leaveNest 29 = .ok (.getfield 28, 3) := by decide +kernel
theorem dX1_leaveNest_32 : decode cX1_leaveNest 32 = .ok (.iconst 1, 1) := by decide +kernel
theorem dX1_leaveNest_33 : decode cX1_leaveNest 33 = .ok (.isub, 1) := by decide +kernel
theorem dX1_leaveNest_34 : decode cX1_leaveNest 34 = .ok (.iand, 1) := by decide +kernel
theorem dX1_leaveNest_35 : decode cX1_leaveNest 35 = .ok (.putfield 28, 3) := by decide +kernel
theorem dX1_leaveNest_38 : decode cX1_leaveNest 38 = .ok (.aload_n 0, 1) := by decide +kernel
theorem dX1_leaveNest_39 : decode cX1_leaveNest 39 = .ok (.invokevirtual 61, 3) := by decide +kernel
theorem dX1_leaveNest_42 : decode cX1_leaveNest 42 = .ok (.return_, 1) := by decide +kernel
theorem dX1_number_0 : decode cX1_number 0 = .ok (.iload_n 1, 1) := by decide +kernel
theorem dX1_number_1 : decode cX1_number 1 = .ok (.tableswitch 206 0 16 #[83, 88, 93, 98, 111, 124, 137, 154, 161, 166, 171, 176, 181, 186, 191, 196, 201], 83) := by decide +kernel
theorem dX1_number_84 : decode cX1_number 84 = .ok (.aload_n 0, 1) := by decide +kernel
theorem dX1_number_85 : decode cX1_number 85 = .ok (.getfield 52, 3) := by decide +kernel
theorem dX1_number_88 : decode cX1_number 88 = .ok (.ireturn, 1) := by decide +kernel
theorem dX1_number_89 : decode cX1_number 89 = .ok (.aload_n 0, 1) := by decide +kernel
theorem dX1_number_90 : decode cX1_number 90 = .ok (.getfield 55, 3) := by decide +kernel
theorem dX1_number_93 : decode cX1_number 93 = .ok (.ireturn, 1) := by decide +kernel
theorem dX1_number_94 : decode cX1_number 94 = .ok (.aload_n 0, 1) := by decide +kernel
theorem dX1_number_95 : decode cX1_number 95 = .ok (.getfield 58, 3) := by decide +kernel
theorem dX1_number_98 : decode cX1_number 98 = .ok (.ireturn, 1) := by decide +kernel
theorem dX1_number_99 : decode cX1_number 99 = .ok (.aload_n 0, 1) := by decide +kernel
theorem dX1_number_100 : decode cX1_number 100 = .ok (.getfield 9, 3) := by decide +kernel
theorem dX1_number_103 : decode cX1_number 103 = .ok (.ifCond .eq 7, 3) := by decide +kernel
theorem dX1_number_106 : decode cX1_number 106 = .ok (.iconst 1, 1) := by decide +kernel
theorem dX1_number_107 : decode cX1_number 107 = .ok (.goto 4, 3) := by decide +kernel
theorem dX1_number_110 : decode cX1_number 110 = .ok (.iconst 0, 1) := by decide +kernel
theorem dX1_number_111 : decode cX1_number 111 = .ok (.ireturn, 1) := by decide +kernel
theorem dX1_number_112 : decode cX1_number 112 = .ok (.aload_n 0, 1) := by decide +kernel
theorem dX1_number_113 : decode cX1_number 113 = .ok (.getfield 15, 3) := by decide +kernel
theorem dX1_number_116 : decode cX1_number 116 = .ok (.ifCond .eq 7, 3) := by decide +kernel
theorem dX1_number_119 : decode cX1_number 119 = .ok (.iconst 1, 1) := by decide +kernel
theorem dX1_number_120 : decode cX1_number 120 = .ok (.goto 4, 3) := by decide +kernel
theorem dX1_number_123 : decode cX1_number 123 = .ok (.iconst 0, 1) := by decide +kernel
theorem dX1_number_124 : decode cX1_number 124 = .ok (.ireturn, 1) := by decide +kernel
theorem dX1_number_125 : decode cX1_number 125 = .ok (.aload_n 0, 1) := by decide +kernel
theorem dX1_number_126 : decode cX1_number 126 = .ok (.getfield 18, 3) := by decide +kernel
theorem dX1_number_129 : decode cX1_number 129 = .ok (.ifCond .eq 7, 3) := by decide +kernel
theorem dX1_number_132 : decode cX1_number 132 = .ok (.iconst 1, 1) := by decide +kernel
theorem dX1_number_133 : decode cX1_number 133 = .ok (.goto 4, 3) := by decide +kernel
theorem dX1_number_136 : decode cX1_number 136 = .ok (.iconst 0, 1) := by decide +kernel
theorem dX1_number_137 : decode cX1_number 137 = .ok (.ireturn, 1) := by decide +kernel
theorem dX1_number_138 : decode cX1_number 138 = .ok (.aload_n 0, 1) := by decide +kernel
theorem dX1_number_139 : decode cX1_number 139 = .ok (.getfield 18, 3) := by decide +kernel
theorem dX1_number_142 : decode cX1_number 142 = .ok (.ifCond .eq 10, 3) := by decide +kernel
theorem dX1_number_145 : decode cX1_number 145 = .ok (.aload_n 0, 1) := by decide +kernel
theorem dX1_number_146 : decode cX1_number 146 = .ok (.getfield 21, 3) := by decide +kernel
theorem dX1_number_149 : decode cX1_number 149 = .ok (.goto 5, 3) := by decide +kernel
theorem dX1_number_152 : decode cX1_number 152 = .ok (.bipush (-6), 2) := by decide +kernel
theorem dX1_number_154 : decode cX1_number 154 = .ok (.ireturn, 1) := by decide +kernel
theorem dX1_number_155 : decode cX1_number 155 = .ok (.aload_n 0, 1) := by decide +kernel
theorem dX1_number_156 : decode cX1_number 156 = .ok (.iload_n 2, 1) := by decide +kernel
theorem dX1_number_157 : decode cX1_number 157 = .ok (.iload_n 3, 1) := by decide +kernel
theorem dX1_number_158 : decode cX1_number 158 = .ok (.invokevirtual 64, 3) := by decide +kernel
theorem dX1_number_161 : decode cX1_number 161 = .ok (.ireturn, 1) := by decide +kernel
theorem dX1_number_162 : decode cX1_number 162 = .ok (.aload_n 0, 1) := by decide +kernel
theorem dX1_number_163 : decode cX1_number 163 = .ok (.getfield 25, 3) := by decide +kernel
theorem dX1_number_166 : decode cX1_number 166 = .ok (.ireturn, 1) := by decide +kernel
theorem dX1_number_167 : decode cX1_number 167 = .ok (.aload_n 0, 1) := by decide +kernel
theorem dX1_number_168 : decode cX1_number 168 = .ok (.getfield 28, 3) := by decide +kernel
theorem dX1_number_171 : decode cX1_number 171 = .ok (.ireturn, 1) := by decide +kernel
theorem dX1_number_172 : decode cX1_number 172 = .ok (.aload_n 0, 1) := by decide +kernel
theorem dX1_number_173 : decode cX1_number 173 = .ok (.getfield 31, 3) := by decide +kernel
theorem dX1_number_176 : decode cX1_number 176 = .ok (.ireturn, 1) := by decide +kernel
theorem dX1_number_177 : decode cX1_number 177 = .ok (.aload_n 0, 1) := by decide +kernel
theorem dX1_number_178 : decode cX1_number 178 = .ok (.getfield 34, 3) := by decide +kernel
theorem dX1_number_181 : decode cX1_number 181 = .ok (.ireturn, 1) := by decide +kernel
theorem dX1_number_182 : decode cX1_number 182 = .ok (.aload_n 0, 1) := by decide +kernel
theorem dX1_number_183 : decode cX1_number 183 = .ok (.getfield 37, 3) := by decide +kernel
theorem dX1_number_186 : decode cX1_number 186 = .ok (.ireturn, 1) := by decide +kernel
theorem dX1_number_187 : decode cX1_number 187 = .ok (.aload_n 0, 1) := by decide +kernel
theorem dX1_number_188 : decode cX1_number 188 = .ok (.getfield 40, 3) := by decide +kernel
theorem dX1_number_191 : decode cX1_number 191 = .ok (.ireturn, 1) := by decide +kernel
theorem dX1_number_192 : decode cX1_number 192 = .ok (.aload_n 0, 1) := by decide +kernel
theorem dX1_number_193 : decode cX1_number 193 = .ok (.getfield 43, 3) := by decide +kernel
theorem dX1_number_196 : decode cX1_number 196 = .ok (.ireturn, 1) := by decide +kernel
theorem dX1_number_197 : decode cX1_number 197 = .ok (.aload_n 0, 1) := by decide +kernel
theorem dX1_number_198 : decode cX1_number 198 = .ok (.getfield 46, 3) := by decide +kernel
theorem dX1_number_201 : decode cX1_number 201 = .ok (.ireturn, 1) := by decide +kernel
theorem dX1_number_202 : decode cX1_number 202 = .ok (.aload_n 0, 1) := by decide +kernel
theorem dX1_number_203 : decode cX1_number 203 = .ok (.getfield 49, 3) := by decide +kernel
theorem dX1_number_206 : decode cX1_number 206 = .ok (.ireturn, 1) := by decide +kernel
theorem dX1_number_207 : decode cX1_number 207 = .ok (.bipush (-2), 2) := by decide +kernel
theorem dX1_number_209 : decode cX1_number 209 = .ok (.ireturn, 1) := by decide +kernel
theorem dX2_init_0 : decode cX2_init 0 = .ok (.aload_n 0, 1) := by decide +kernel
theorem dX2_init_1 : decode cX2_init 1 = .ok (.invokespecial 3, 3) := by decide +kernel
theorem dX2_init_4 : decode cX2_init 4 = .ok (.aload_n 0, 1) := by decide +kernel
theorem dX2_init_5 : decode cX2_init 5 = .ok (.bipush 80, 2) := by decide +kernel
theorem dX2_init_7 : decode cX2_init 7 = .ok (.newarray .char, 2) := by decide +kernel
theorem dX2_init_9 : decode cX2_init 9 = .ok (.putfield 9, 3) := by decide +kernel
theorem dX2_init_12 : decode cX2_init 12 = .ok (.return_, 1) := by decide +kernel
theorem dX3_init_0 : decode cX3_init 0 = .ok (.aload_n 0, 1) := by decide +kernel
theorem dX3_init_1 : decode cX3_init 1 = .ok (.invokespecial 3, 3) := by decide +kernel
theorem dX3_init_4 : decode cX3_init 4 = .ok (.aload_n 0, 1) := by decide +kernel
theorem dX3_init_5 : decode cX3_init 5 = .ok (.getstatic 9, 3) := by decide +kernel
theorem dX3_init_8 : decode cX3_init 8 = .ok (.invokevirtual 13, 3) := by decide +kernel
theorem dX3_init_11 : decode cX3_init 11 = .ok (.checkcast 14, 3) := by decide +kernel
theorem dX3_init_14 : decode cX3_init 14 = .ok (.putfield 18, 3) := by decide +kernel
theorem dX3_init_17 : decode cX3_init 17 = .ok (.aload_n 0, 1) := by decide +kernel
theorem dX3_init_18 : decode cX3_init 18 = .ok (.bipush 12, 2) := by decide +kernel
theorem dX3_init_20 : decode cX3_init 20 = .ok (.anewarray 23, 3) := by decide +kernel
theorem dX3_init_23 : decode cX3_init 23 = .ok (.putfield 25, 3) := by decide +kernel
theorem dX3_init_26 : decode cX3_init 26 = .ok (.iconst 0, 1) := by decide +kernel
theorem dX3_init_27 : decode cX3_init 27 = .ok (.istore_n 1, 1) := by decide +kernel
theorem dX3_init_28 : decode cX3_init 28 = .ok (.iload_n 1, 1) := by decide +kernel
theorem dX3_init_29 : decode cX3_init 29 = .ok (.bipush 12, 2) := by decide +kernel
theorem dX3_init_31 : decode cX3_init 31 = .ok (.if_icmp .ge 22, 3) := by decide +kernel
theorem dX3_init_34 : decode cX3_init 34 = .ok (.aload_n 0, 1) := by decide +kernel
theorem dX3_init_35 : decode cX3_init 35 = .ok (.getfield 25, 3) := by decide +kernel
theorem dX3_init_38 : decode cX3_init 38 = .ok (.iload_n 1, 1) := by decide +kernel
theorem dX3_init_39 : decode cX3_init 39 = .ok (.new 23, 3) := by decide +kernel
theorem dX3_init_42 : decode cX3_init 42 = .ok (.dup, 1) := by decide +kernel
theorem dX3_init_43 : decode cX3_init 43 = .ok (.invokespecial 29, 3) := by decide +kernel
theorem dX3_init_46 : decode cX3_init 46 = .ok (.aastore, 1) := by decide +kernel
theorem dX3_init_47 : decode cX3_init 47 = .ok (.iinc 1 1, 3) := by decide +kernel
theorem dX3_init_50 : decode cX3_init 50 = .ok (.goto (-22), 3) := by decide +kernel
theorem dX3_init_53 : decode cX3_init 53 = .ok (.aload_n 0, 1) := by decide +kernel
theorem dX3_init_54 : decode cX3_init 54 = .ok (.bipush 6, 2) := by decide +kernel
theorem dX3_init_56 : decode cX3_init 56 = .ok (.anewarray 30, 3) := by decide +kernel
theorem dX3_init_59 : decode cX3_init 59 = .ok (.putfield 32, 3) := by decide +kernel
theorem dX3_init_62 : decode cX3_init 62 = .ok (.iconst 0, 1) := by decide +kernel
theorem dX3_init_63 : decode cX3_init 63 = .ok (.istore_n 1, 1) := by decide +kernel
theorem dX3_init_64 : decode cX3_init 64 = .ok (.iload_n 1, 1) := by decide +kernel
theorem dX3_init_65 : decode cX3_init 65 = .ok (.bipush 6, 2) := by decide +kernel
theorem dX3_init_67 : decode cX3_init 67 = .ok (.if_icmp .ge 22, 3) := by decide +kernel
theorem dX3_init_70 : decode cX3_init 70 = .ok (.aload_n 0, 1) := by decide +kernel
theorem dX3_init_71 : decode cX3_init 71 = .ok (.getfield 32, 3) := by decide +kernel
theorem dX3_init_74 : decode cX3_init 74 = .ok (.iload_n 1, 1) := by decide +kernel
theorem dX3_init_75 : decode cX3_init 75 = .ok (.new 30, 3) := by decide +kernel
theorem dX3_init_78 : decode cX3_init 78 = .ok (.dup, 1) := by decide +kernel
theorem dX3_init_79 : decode cX3_init 79 = .ok (.invokespecial 36, 3) := by decide +kernel
theorem dX3_init_82 : decode cX3_init 82 = .ok (.aastore, 1) := by decide +kernel
theorem dX3_init_83 : decode cX3_init 83 = .ok (.iinc 1 1, 3) := by decide +kernel
theorem dX3_init_86 : decode cX3_init 86 = .ok (.goto (-22), 3) := by decide +kernel
theorem dX3_init_89 : decode cX3_init 89 = .ok (.aload_n 0, 1) := by decide +kernel
theorem dX3_init_90 : decode cX3_init 90 = .ok (.bipush 8, 2) := by decide +kernel
theorem dX3_init_92 : decode cX3_init 92 = .ok (.anewarray 37, 3) := by decide +kernel
theorem dX3_init_95 : decode cX3_init 95 = .ok (.putfield 39, 3) := by decide +kernel
theorem dX3_init_98 : decode cX3_init 98 = .ok (.iconst 0, 1) := by decide +kernel
theorem dX3_init_99 : decode cX3_init 99 = .ok (.istore_n 1, 1) := by decide +kernel
theorem dX3_init_100 : decode cX3_init 100 = .ok (.iload_n 1, 1) := by decide +kernel
theorem dX3_init_101 : decode cX3_init 101 = .ok (.bipush 8, 2) := by decide +kernel
theorem dX3_init_103 : decode cX3_init 103 = .ok (.if_icmp .ge 22, 3) := by decide +kernel
theorem dX3_init_106 : decode cX3_init 106 = .ok (.aload_n 0, 1) := by decide +kernel
theorem dX3_init_107 : decode cX3_init 107 = .ok (.getfield 39, 3) := by decide +kernel
theorem dX3_init_110 : decode cX3_init 110 = .ok (.iload_n 1, 1) := by decide +kernel
theorem dX3_init_111 : decode cX3_init 111 = .ok (.new 37, 3) := by decide +kernel
theorem dX3_init_114 : decode cX3_init 114 = .ok (.dup, 1) := by decide +kernel
theorem dX3_init_115 : decode cX3_init 115 = .ok (.invokespecial 43, 3) := by decide +kernel
theorem dX3_init_118 : decode cX3_init 118 = .ok (.aastore, 1) := by decide +kernel
theorem dX3_init_119 : decode cX3_init 119 = .ok (.iinc 1 1, 3) := by decide +kernel
theorem dX3_init_122 : decode cX3_init 122 = .ok (.goto (-22), 3) := by decide +kernel
theorem dX3_init_125 : decode cX3_init 125 = .ok (.return_, 1) := by decide +kernel
theorem dX3_copyFrom_0 : decode cX3_copyFrom 0 = .ok (.aload_n 0, 1) := by decide +kernel
theorem dX3_copyFrom_1 : decode cX3_copyFrom 1 = .ok (.aload_n 1, 1) := by decide +kernel
theorem dX3_copyFrom_2 : decode cX3_copyFrom 2 = .ok (.getfield 44, 3) := by decide +kernel
theorem dX3_copyFrom_5 : decode cX3_copyFrom 5 = .ok (.putfield 44, 3) := by decide +kernel
theorem dX3_copyFrom_8 : decode cX3_copyFrom 8 = .ok (.aload_n 1, 1) := by decide +kernel
theorem dX3_copyFrom_9 : decode cX3_copyFrom 9 = .ok (.getfield 18, 3) := by decide +kernel
theorem dX3_copyFrom_12 : decode cX3_copyFrom 12 = .ok (.iconst 0, 1) := by decide +kernel
theorem dX3_copyFrom_13 : decode cX3_copyFrom 13 = .ok (.aload_n 0, 1) := by decide +kernel
theorem dX3_copyFrom_14 : decode cX3_copyFrom 14 = .ok (.getfield 18, 3) := by decide +kernel
theorem dX3_copyFrom_17 : decode cX3_copyFrom 17 = .ok (.iconst 0, 1) := by decide +kernel
theorem dX3_copyFrom_18 : decode cX3_copyFrom 18 = .ok (.aload_n 0, 1) := by decide +kernel
theorem dX3_copyFrom_19 : decode cX3_copyFrom 19 = .ok (.getfield 18, 3) := by decide +kernel
theorem dX3_copyFrom_22 : decode cX3_copyFrom 22 = .ok (.arraylength, 1) := by decide +kernel
theorem dX3_copyFrom_23 : decode cX3_copyFrom 23 = .ok (.invokestatic 48, 3) := by decide +kernel
theorem dX3_copyFrom_26 : decode cX3_copyFrom 26 = .ok (.aload_n 0, 1) := by decide +kernel
theorem dX3_copyFrom_27 : decode cX3_copyFrom 27 = .ok (.aload_n 1, 1) := by decide +kernel
theorem dX3_copyFrom_28 : decode cX3_copyFrom 28 = .ok (.getfield 54, 3) := by decide +kernel
theorem dX3_copyFrom_31 : decode cX3_copyFrom 31 = .ok (.putfield 54, 3) := by decide +kernel
theorem dX3_copyFrom_34 : decode cX3_copyFrom 34 = .ok (.iconst 0, 1) := by decide +kernel
theorem dX3_copyFrom_35 : decode cX3_copyFrom 35 = .ok (.istore_n 2, 1) := by decide +kernel
theorem dX3_copyFrom_36 : decode cX3_copyFrom 36 = .ok (.iload_n 2, 1) := by decide +kernel
theorem dX3_copyFrom_37 : decode cX3_copyFrom 37 = .ok (.aload_n 0, 1) := by decide +kernel
theorem dX3_copyFrom_38 : decode cX3_copyFrom 38 = .ok (.getfield 54, 3) := by decide +kernel
theorem dX3_copyFrom_41 : decode cX3_copyFrom 41 = .ok (.if_icmp .ge 24, 3) := by decide +kernel
theorem dX3_copyFrom_44 : decode cX3_copyFrom 44 = .ok (.aload_n 0, 1) := by decide +kernel
theorem dX3_copyFrom_45 : decode cX3_copyFrom 45 = .ok (.getfield 25, 3) := by decide +kernel
theorem dX3_copyFrom_48 : decode cX3_copyFrom 48 = .ok (.iload_n 2, 1) := by decide +kernel
theorem dX3_copyFrom_49 : decode cX3_copyFrom 49 = .ok (.aaload, 1) := by decide +kernel
theorem dX3_copyFrom_50 : decode cX3_copyFrom 50 = .ok (.aload_n 1, 1) := by decide +kernel
theorem dX3_copyFrom_51 : decode cX3_copyFrom 51 = .ok (.getfield 25, 3) := by decide +kernel
theorem dX3_copyFrom_54 : decode cX3_copyFrom 54 = .ok (.iload_n 2, 1) := by decide +kernel
theorem dX3_copyFrom_55 : decode cX3_copyFrom 55 = .ok (.aaload, 1) := by decide +kernel
theorem dX3_copyFrom_56 : decode cX3_copyFrom 56 = .ok (.invokevirtual 57, 3) := by decide +kernel
theorem dX3_copyFrom_59 : decode cX3_copyFrom 59 = .ok (.iinc 2 1, 3) := by decide +kernel
theorem dX3_copyFrom_62 : decode cX3_copyFrom 62 = .ok (.goto (-26), 3) := by decide +kernel
theorem dX3_copyFrom_65 : decode cX3_copyFrom 65 = .ok (.aload_n 0, 1) := by decide +kernel
theorem dX3_copyFrom_66 : decode cX3_copyFrom 66 = .ok (.aload_n 1, 1) := by decide +kernel
theorem dX3_copyFrom_67 : decode cX3_copyFrom 67 = .ok (.getfield 61, 3) := by decide +kernel
theorem dX3_copyFrom_70 : decode cX3_copyFrom 70 = .ok (.putfield 61, 3) := by decide +kernel
theorem dX3_copyFrom_73 : decode cX3_copyFrom 73 = .ok (.iconst 0, 1) := by decide +kernel
theorem dX3_copyFrom_74 : decode cX3_copyFrom 74 = .ok (.istore_n 2, 1) := by decide +kernel
theorem dX3_copyFrom_75 : decode cX3_copyFrom 75 = .ok (.iload_n 2, 1) := by decide +kernel
theorem dX3_copyFrom_76 : decode cX3_copyFrom 76 = .ok (.aload_n 0, 1) := by decide +kernel
theorem dX3_copyFrom_77 : decode cX3_copyFrom 77 = .ok (.getfield 61, 3) := by decide +kernel
theorem dX3_copyFrom_80 : decode cX3_copyFrom 80 = .ok (.if_icmp .ge 24, 3) := by decide +kernel
theorem dX3_copyFrom_83 : decode cX3_copyFrom 83 = .ok (.aload_n 0, 1) := by decide +kernel
theorem dX3_copyFrom_84 : decode cX3_copyFrom 84 = .ok (.getfield 32, 3) := by decide +kernel
theorem dX3_copyFrom_87 : decode cX3_copyFrom 87 = .ok (.iload_n 2, 1) := by decide +kernel
theorem dX3_copyFrom_88 : decode cX3_copyFrom 88 = .ok (.aaload, 1) := by decide +kernel
theorem dX3_copyFrom_89 : decode cX3_copyFrom 89 = .ok (.aload_n 1, 1) := by decide +kernel
theorem dX3_copyFrom_90 : decode cX3_copyFrom 90 = .ok (.getfield 32, 3) := by decide +kernel
theorem dX3_copyFrom_93 : decode cX3_copyFrom 93 = .ok (.iload_n 2, 1) := by decide +kernel
theorem dX3_copyFrom_94 : decode cX3_copyFrom 94 = .ok (.aaload, 1) := by decide +kernel
theorem dX3_copyFrom_95 : decode cX3_copyFrom 95 = .ok (.invokevirtual 64, 3) := by decide +kernel
theorem dX3_copyFrom_98 : decode cX3_copyFrom 98 = .ok (.iinc 2 1, 3) := by decide +kernel
theorem dX3_copyFrom_101 : decode cX3_copyFrom 101 = .ok (.goto (-26), 3) := by decide +kernel
theorem dX3_copyFrom_104 : decode cX3_copyFrom 104 = .ok (.aload_n 0, 1) := by decide +kernel
theorem dX3_copyFrom_105 : decode cX3_copyFrom 105 = .ok (.aload_n 1, 1) := by decide +kernel
theorem dX3_copyFrom_106 : decode cX3_copyFrom 106 = .ok (.getfield 67, 3) := by decide +kernel
theorem dX3_copyFrom_109 : decode cX3_copyFrom 109 = .ok (.putfield 67, 3) := by decide +kernel
theorem dX3_copyFrom_112 : decode cX3_copyFrom 112 = .ok (.iconst 0, 1) := by decide +kernel
theorem dX3_copyFrom_113 : decode cX3_copyFrom 113 = .ok (.istore_n 2, 1) := by decide +kernel
theorem dX3_copyFrom_114 : decode cX3_copyFrom 114 = .ok (.iload_n 2, 1) := by decide +kernel
theorem dX3_copyFrom_115 : decode cX3_copyFrom 115 = .ok (.aload_n 0, 1) := by decide +kernel
theorem dX3_copyFrom_116 : decode cX3_copyFrom 116 = .ok (.getfield 67, 3) := by decide +kernel
theorem dX3_copyFrom_119 : decode cX3_copyFrom 119 = .ok (.if_icmp .ge 24, 3) := by decide +kernel
theorem dX3_copyFrom_122 : decode cX3_copyFrom 122 = .ok (.aload_n 0, 1) := by decide +kernel
theorem dX3_copyFrom_123 : decode cX3_copyFrom 123 = .ok (.getfield 39, 3) := by decide +kernel
theorem dX3_copyFrom_126 : decode cX3_copyFrom 126 = .ok (.iload_n 2, 1) := by decide +kernel
theorem dX3_copyFrom_127 : decode cX3_copyFrom 127 = .ok (.aaload, 1) := by decide +kernel
theorem dX3_copyFrom_128 : decode cX3_copyFrom 128 = .ok (.aload_n 1, 1) := by decide +kernel
theorem dX3_copyFrom_129 : decode cX3_copyFrom 129 = .ok (.getfield 39, 3) := by decide +kernel
theorem dX3_copyFrom_132 : decode cX3_copyFrom 132 = .ok (.iload_n 2, 1) := by decide +kernel
theorem dX3_copyFrom_133 : decode cX3_copyFrom 133 = .ok (.aaload, 1) := by decide +kernel
theorem dX3_copyFrom_134 : decode cX3_copyFrom 134 = .ok (.invokevirtual 70, 3) := by decide +kernel
theorem dX3_copyFrom_137 : decode cX3_copyFrom 137 = .ok (.iinc 2 1, 3) := by decide +kernel
theorem dX3_copyFrom_140 : decode cX3_copyFrom 140 = .ok (.goto (-26), 3) := by decide +kernel
theorem dX3_copyFrom_143 : decode cX3_copyFrom 143 = .ok (.aload_n 0, 1) := by decide +kernel
theorem dX3_copyFrom_144 : decode cX3_copyFrom 144 = .ok (.aload_n 1, 1) := by decide +kernel
theorem dX3_copyFrom_145 : decode cX3_copyFrom 145 = .ok (.getfield 73, 3) := by decide +kernel
theorem dX3_copyFrom_148 : decode cX3_copyFrom 148 = .ok (.putfield 73, 3) := by decide +kernel
theorem dX3_copyFrom_151 : decode cX3_copyFrom 151 = .ok (.aload_n 0, 1) := by decide +kernel
theorem dX3_copyFrom_152 : decode cX3_copyFrom 152 = .ok (.aload_n 1, 1) := by decide +kernel
theorem dX3_copyFrom_153 : decode cX3_copyFrom 153 = .ok (.getfield 76, 3) := by decide +kernel
theorem dX3_copyFrom_156 : decode cX3_copyFrom 156 = .ok (.putfield 76, 3) := by decide +kernel
theorem dX3_copyFrom_159 : decode cX3_copyFrom 159 = .ok (.aload_n 0, 1) := by decide +kernel
theorem dX3_copyFrom_160 : decode cX3_copyFrom 160 = .ok (.aload_n 1, 1) := by decide +kernel
theorem dX3_copyFrom_161 : decode cX3_copyFrom 161 = .ok (.getfield 79, 3) := by decide +kernel
theorem dX3_copyFrom_164 : decode cX3_copyFrom 164 = .ok (.putfield 79, 3) := by decide +kernel
theorem dX3_copyFrom_167 : decode cX3_copyFrom 167 = .ok (.return_, 1) := by decide +kernel
theorem dX3_hasLine_0 : decode cX3_hasLine 0 = .ok (.iload_n 1, 1) := by decide +kernel
theorem dX3_hasLine_1 : decode cX3_hasLine 1 = .ok (.iconst 0, 1) := by decide +kernel
theorem dX3_hasLine_2 : decode cX3_hasLine 2 = .ok (.aload_n 0, 1) := by decide +kernel
theorem dX3_hasLine_3 : decode cX3_hasLine 3 = .ok (.getfield 54, 3) := by decide +kernel
theorem dX3_hasLine_6 : decode cX3_hasLine 6 = .ok (.iconst 1, 1) := by decide +kernel
theorem dX3_hasLine_7 : decode cX3_hasLine 7 = .ok (.isub, 1) := by decide +kernel
theorem dX3_hasLine_8 : decode cX3_hasLine 8 = .ok (.invokestatic 82, 3) := by decide +kernel
theorem dX3_hasLine_11 : decode cX3_hasLine 11 = .ok (.ireturn, 1) := by decide +kernel
theorem dX3_hasTimer_0 : decode cX3_hasTimer 0 = .ok (.iload_n 1, 1) := by decide +kernel
theorem dX3_hasTimer_1 : decode cX3_hasTimer 1 = .ok (.iconst 0, 1) := by decide +kernel
theorem dX3_hasTimer_2 : decode cX3_hasTimer 2 = .ok (.aload_n 0, 1) := by decide +kernel
theorem dX3_hasTimer_3 : decode cX3_hasTimer 3 = .ok (.getfield 61, 3) := by decide +kernel
theorem dX3_hasTimer_6 : decode cX3_hasTimer 6 = .ok (.iconst 1, 1) := by decide +kernel
theorem dX3_hasTimer_7 : decode cX3_hasTimer 7 = .ok (.isub, 1) := by decide +kernel
theorem dX3_hasTimer_8 : decode cX3_hasTimer 8 = .ok (.invokestatic 82, 3) := by decide +kernel
theorem dX3_hasTimer_11 : decode cX3_hasTimer 11 = .ok (.ireturn, 1) := by decide +kernel
theorem dX3_changeSetting_0 : decode cX3_changeSetting 0 = .ok (.iload_n 1, 1) := by decide +kernel
theorem dX3_changeSetting_1 : decode cX3_changeSetting 1 = .ok (.iconst 0, 1) := by decide +kernel
theorem dX3_changeSetting_2 : decode cX3_changeSetting 2 = .ok (.aload_n 0, 1) := by decide +kernel
theorem dX3_changeSetting_3 : decode cX3_changeSetting 3 = .ok (.getfield 18, 3) := by decide +kernel
theorem dX3_changeSetting_6 : decode cX3_changeSetting 6 = .ok (.arraylength, 1) := by decide +kernel
theorem dX3_changeSetting_7 : decode cX3_changeSetting 7 = .ok (.iconst 1, 1) := by decide +kernel
theorem dX3_changeSetting_8 : decode cX3_changeSetting 8 = .ok (.isub, 1) := by decide +kernel
theorem dX3_changeSetting_9 : decode cX3_changeSetting 9 = .ok (.invokestatic 82, 3) := by decide +kernel
theorem dX3_changeSetting_12 : decode cX3_changeSetting 12 = .ok (.ifCond .ne 6, 3) := by decide +kernel
theorem dX3_changeSetting_15 : decode cX3_changeSetting 15 = .ok (.bipush (-2), 2) := by decide +kernel
theorem dX3_changeSetting_17 : decode cX3_changeSetting 17 = .ok (.ireturn, 1) := by decide +kernel
theorem dX3_changeSetting_18 : decode cX3_changeSetting 18 = .ok (.iload_n 2, 1) := by decide +kernel
theorem dX3_changeSetting_19 : decode cX3_changeSetting 19 = .ok (.getstatic 86, 3) := by decide +kernel
theorem dX3_changeSetting_22 : decode cX3_changeSetting 22 = .ok (.iload_n 1, 1) := by decide +kernel
theorem dX3_changeSetting_23 : decode cX3_changeSetting 23 = .ok (.iaload, 1) := by decide +kernel
theorem dX3_changeSetting_24 : decode cX3_changeSetting 24 = .ok (.getstatic 89, 3) := by decide +kernel
theorem dX3_changeSetting_27 : decode cX3_changeSetting 27 = .ok (.iload_n 1, 1) := by decide +kernel
theorem dX3_changeSetting_28 : decode cX3_changeSetting 28 = .ok (.iaload, 1) := by decide +kernel
theorem dX3_changeSetting_29 : decode cX3_changeSetting 29 = .ok (.invokestatic 82, 3) := by decide +kernel
theorem dX3_changeSetting_32 : decode cX3_changeSetting 32 = .ok (.ifCond .ne 6, 3) := by decide +kernel
theorem dX3_changeSetting_35 : decode cX3_changeSetting 35 = .ok (.bipush (-2), 2) := by decide +kernel
theorem dX3_changeSetting_37 : decode cX3_changeSetting 37 = .ok (.ireturn, 1) := by decide +kernel
theorem dX3_changeSetting_38 : decode cX3_changeSetting 38 = .ok (.aload_n 0, 1) := by decide +kernel
theorem dX3_changeSetting_39 : decode cX3_changeSetting 39 = .ok (.getfield 18, 3) := by decide +kernel
theorem dX3_changeSetting_42 : decode cX3_changeSetting 42 = .ok (.iload_n 1, 1) := by decide +kernel
theorem dX3_changeSetting_43 : decode cX3_changeSetting 43 = .ok (.iaload, 1) := by decide +kernel
theorem dX3_changeSetting_44 : decode cX3_changeSetting 44 = .ok (.istore_n 3, 1) := by decide +kernel
theorem dX3_changeSetting_45 : decode cX3_changeSetting 45 = .ok (.aload_n 0, 1) := by decide +kernel
theorem dX3_changeSetting_46 : decode cX3_changeSetting 46 = .ok (.getfield 18, 3) := by decide +kernel
theorem dX3_changeSetting_49 : decode cX3_changeSetting 49 = .ok (.iload_n 1, 1) := by decide +kernel
theorem dX3_changeSetting_50 : decode cX3_changeSetting 50 = .ok (.iload_n 2, 1) := by decide +kernel
theorem dX3_changeSetting_51 : decode cX3_changeSetting 51 = .ok (.iastore, 1) := by decide +kernel
theorem dX3_changeSetting_52 : decode cX3_changeSetting 52 = .ok (.iload_n 3, 1) := by decide +kernel
theorem dX3_changeSetting_53 : decode cX3_changeSetting 53 = .ok (.ireturn, 1) := by decide +kernel
theorem dX3_addLine_0 : decode cX3_addLine 0 = .ok (.iload_n 1, 1) := by decide +kernel
theorem dX3_addLine_1 : decode cX3_addLine 1 = .ok (.iload_n 2, 1) := by decide +kernel
theorem dX3_addLine_2 : decode cX3_addLine 2 = .ok (.iload_n 3, 1) := by decide +kernel
theorem dX3_addLine_3 : decode cX3_addLine 3 = .ok (.invokestatic 92, 3) := by decide +kernel
theorem dX3_addLine_6 : decode cX3_addLine 6 = .ok (.ifCond .eq 13, 3) := by decide +kernel
theorem dX3_addLine_9 : decode cX3_addLine 9 = .ok (.iload 4, 2) := by decide +kernel
theorem dX3_addLine_11 : decode cX3_addLine 11 = .ok (.iconst 0, 1) := by decide +kernel
theorem dX3_addLine_12 : decode cX3_addLine 12 = .ok (.iconst 1, 1) := by decide +kernel
theorem dX3_addLine_13 : decode cX3_addLine 13 = .ok (.invokestatic 82, 3) := by decide +kernel
theorem dX3_addLine_16 : decode cX3_addLine 16 = .ok (.ifCond .ne 6, 3) := by decide +kernel
theorem dX3_addLine_19 : decode cX3_addLine 19 = .ok (.bipush (-2), 2) := by decide +kernel
theorem dX3_addLine_21 : decode cX3_addLine 21 = .ok (.ireturn, 1) := by decide +kernel
theorem dX3_addLine_22 : decode cX3_addLine 22 = .ok (.aload_n 0, 1) := by decide +kernel
theorem dX3_addLine_23 : decode cX3_addLine 23 = .ok (.getfield 54, 3) := by decide +kernel
theorem dX3_addLine_26 : decode cX3_addLine 26 = .ok (.bipush 12, 2) := by decide +kernel
theorem dX3_addLine_28 : decode cX3_addLine 28 = .ok (.if_icmp .lt 6, 3) := by decide +kernel
theorem dX3_addLine_31 : decode cX3_addLine 31 = .ok (.bipush (-4), 2) := by decide +kernel
theorem dX3_addLine_33 : decode cX3_addLine 33 = .ok (.ireturn, 1) := by decide +kernel
theorem dX3_addLine_34 : decode cX3_addLine 34 = .ok (.aload_n 0, 1) := by decide +kernel
theorem dX3_addLine_35 : decode cX3_addLine 35 = .ok (.getfield 25, 3) := by decide +kernel
theorem dX3_addLine_38 : decode cX3_addLine 38 = .ok (.aload_n 0, 1) := by decide +kernel
theorem dX3_addLine_39 : decode cX3_addLine 39 = .ok (.getfield 54, 3) := by decide +kernel
theorem dX3_addLine_42 : decode cX3_addLine 42 = .ok (.aaload, 1) := by decide +kernel
theorem dX3_addLine_43 : decode cX3_addLine 43 = .ok (.iload 4, 2) := by decide +kernel
theorem dX3_addLine_45 : decode cX3_addLine 45 = .ok (.iconst 1, 1) := by decide +kernel
theorem dX3_addLine_46 : decode cX3_addLine 46 = .ok (.if_icmp .ne 7, 3) := by decide +kernel
theorem dX3_addLine_49 : decode cX3_addLine 49 = .ok (.iconst 1, 1) := by decide +kernel
theorem dX3_addLine_50 : decode cX3_addLine 50 = .ok (.goto 4, 3) := by decide +kernel
theorem dX3_addLine_53 : decode cX3_addLine 53 = .ok (.iconst 0, 1) := by decide +kernel
theorem dX3_addLine_54 : decode cX3_addLine 54 = .ok (.invokevirtual 95, 3) := by decide +kernel
theorem dX3_addLine_57 : decode cX3_addLine 57 = .ok (.aload_n 0, 1) := by decide +kernel
theorem dX3_addLine_58 : decode cX3_addLine 58 = .ok (.getfield 25, 3) := by decide +kernel
theorem dX3_addLine_61 : decode cX3_addLine 61 = .ok (.aload_n 0, 1) := by decide +kernel
theorem dX3_addLine_62 : decode cX3_addLine 62 = .ok (.getfield 54, 3) := by decide +kernel
theorem dX3_addLine_65 : decode cX3_addLine 65 = .ok (.aaload, 1) := by decide +kernel
theorem dX3_addLine_66 : decode cX3_addLine 66 = .ok (.iload_n 1, 1) := by decide +kernel
theorem dX3_addLine_67 : decode cX3_addLine 67 = .ok (.iload_n 2, 1) := by decide +kernel
theorem dX3_addLine_68 : decode cX3_addLine 68 = .ok (.iload_n 3, 1) := by decide +kernel
theorem dX3_addLine_69 : decode cX3_addLine 69 = .ok (.invokevirtual 99, 3) := by decide +kernel
theorem dX3_addLine_72 : decode cX3_addLine 72 = .ok (.aload_n 0, 1) := by decide +kernel
theorem dX3_addLine_73 : decode cX3_addLine 73 = .ok (.dup, 1) := by decide +kernel
theorem dX3_addLine_74 : decode cX3_addLine 74 = .ok (.getfield 54, 3) := by decide +kernel
theorem dX3_addLine_77 : decode cX3_addLine 77 = .ok (.iconst 1, 1) := by decide +kernel
theorem dX3_addLine_78 : decode cX3_addLine 78 = .ok (.iadd, 1) := by decide +kernel
theorem dX3_addLine_79 : decode cX3_addLine 79 = .ok (.putfield 54, 3) := by decide +kernel
theorem dX3_addLine_82 : decode cX3_addLine 82 = .ok (.aload_n 0, 1) := by decide +kernel
theorem dX3_addLine_83 : decode cX3_addLine 83 = .ok (.getfield 54, 3) := by decide +kernel
theorem dX3_addLine_86 : decode cX3_addLine 86 = .ok (.iconst 1, 1) := by decide +kernel
theorem dX3_addLine_87 : decode cX3_addLine 87 = .ok (.isub, 1) := by decide +kernel
theorem dX3_addLine_88 : decode cX3_addLine 88 = .ok (.ireturn, 1) := by decide +kernel
theorem dX3_changeLine_0 : decode cX3_changeLine 0 = .ok (.aload_n 0, 1) := by decide +kernel
theorem dX3_changeLine_1 : decode cX3_changeLine 1 = .ok (.iload_n 1, 1) := by decide +kernel
theorem dX3_changeLine_2 : decode cX3_changeLine 2 = .ok (.invokevirtual 103, 3) := by decide +kernel
theorem dX3_changeLine_5 : decode cX3_changeLine 5 = .ok (.ifCond .ne 5, 3) := by decide +kernel
theorem dX3_changeLine_8 : decode cX3_changeLine 8 = .ok (.iconst (-1), 1) := by decide +kernel
theorem dX3_changeLine_9 : decode cX3_changeLine 9 = .ok (.ireturn, 1) := by decide +kernel
theorem dX3_changeLine_10 : decode cX3_changeLine 10 = .ok (.iload_n 2, 1) := by decide +kernel
theorem dX3_changeLine_11 : decode cX3_changeLine 11 = .ok (.iload_n 3, 1) := by decide +kernel
theorem dX3_changeLine_12 : decode cX3_changeLine 12 = .ok (.iload 4, 2) := by decide +kernel
theorem dX3_changeLine_14 : decode cX3_changeLine 14 = .ok (.invokestatic 92, 3) := by decide +kernel
theorem dX3_changeLine_17 : decode cX3_changeLine 17 = .ok (.ifCond .ne 6, 3) := by decide +kernel
theorem dX3_changeLine_20 : decode cX3_changeLine 20 = .ok (.bipush (-2), 2) := by decide +kernel
theorem dX3_changeLine_22 : decode cX3_changeLine 22 = .ok (.ireturn, 1) := by decide +kernel
theorem dX3_changeLine_23 : decode cX3_changeLine 23 = .ok (.aload_n 0, 1) := by decide +kernel
theorem dX3_changeLine_24 : decode cX3_changeLine 24 = .ok (.getfield 25, 3) := by decide +kernel
theorem dX3_changeLine_27 : decode cX3_changeLine 27 = .ok (.iload_n 1, 1) := by decide +kernel
theorem dX3_changeLine_28 : decode cX3_changeLine 28 = .ok (.aaload, 1) := by decide +kernel
theorem dX3_changeLine_29 : decode cX3_changeLine 29 = .ok (.getfield 107, 3) := by decide +kernel
theorem dX3_changeLine_32 : decode cX3_changeLine 32 = .ok (.istore 5, 2) := by decide +kernel
theorem dX3_changeLine_34 : decode cX3_changeLine 34 = .ok (.aload_n 0, 1) := by decide +kernel
theorem dX3_changeLine_35 : decode cX3_changeLine 35 = .ok (.getfield 25, 3) := by decide +kernel
theorem dX3_changeLine_38 : decode cX3_changeLine 38 = .ok (.iload_n 1, 1) := by decide +kernel
theorem dX3_changeLine_39 : decode cX3_changeLine 39 = .ok (.aaload, 1) := by decide +kernel
theorem dX3_changeLine_40 : decode cX3_changeLine 40 = .ok (.iload_n 2, 1) := by decide +kernel
theorem dX3_changeLine_41 : decode cX3_changeLine 41 = .ok (.iload_n 3, 1) := by decide +kernel
theorem dX3_changeLine_42 : decode cX3_changeLine 42 = .ok (.iload 4, 2) := by decide +kernel
theorem dX3_changeLine_44 : decode cX3_changeLine 44 = .ok (.invokevirtual 99, 3) := by decide +kernel
theorem dX3_changeLine_47 : decode cX3_changeLine 47 = .ok (.iload 5, 2) := by decide +kernel
theorem dX3_changeLine_49 : decode cX3_changeLine 49 = .ok (.ireturn, 1) := by decide +kernel
theorem dX3_isShape_0 : decode cX3_isShape 0 = .ok (.iload_n 0, 1) := by decide +kernel
theorem dX3_isShape_1 : decode cX3_isShape 1 = .ok (.iconst 0, 1) := by decide +kernel
theorem dX3_isShape_2 : decode cX3_isShape 2 = .ok (.bipush 15, 2) := by decide +kernel
theorem dX3_isShape_4 : decode cX3_isShape 4 = .ok (.invokestatic 82, 3) := by decide +kernel
theorem dX3_isShape_7 : decode cX3_isShape 7 = .ok (.ifCond .eq 28, 3) := by decide +kernel
theorem dX3_isShape_10 : decode cX3_isShape 10 = .ok (.iload_n 1, 1) := by decide +kernel
theorem dX3_isShape_11 : decode cX3_isShape 11 = .ok (.iconst 1, 1) := by decide +kernel
theorem dX3_isShape_12 : decode cX3_isShape 12 = .ok (.bipush 50, 2) := by decide +kernel
theorem dX3_isShape_14 : decode cX3_isShape 14 = .ok (.invokestatic 82, 3) := by decide +kernel
theorem dX3_isShape_17 : decode cX3_isShape 17 = .ok (.ifCond .eq 18, 3) := by decide +kernel
theorem dX3_isShape_20 : decode cX3_isShape 20 = .ok (.iload_n 2, 1) := by decide +kernel
theorem dX3_isShape_21 : decode cX3_isShape 21 = .ok (.iconst 0, 1) := by decide +kernel
theorem dX3_isShape_22 : decode cX3_isShape 22 = .ok (.sipush 500, 3) := by decide +kernel
theorem dX3_isShape_25 : decode cX3_isShape 25 = .ok (.invokestatic 82, 3) := by decide +kernel
theorem dX3_isShape_28 : decode cX3_isShape 28 = .ok (.ifCond .eq 7, 3) := by decide +kernel
theorem dX3_isShape_31 : decode cX3_isShape 31 = .ok (.iconst 1, 1) := by decide +kernel
theorem dX3_isShape_32 : decode cX3_isShape 32 = .ok (.goto 4, 3) := by decide +kernel
theorem dX3_isShape_35 : decode cX3_isShape 35 = .ok (.iconst 0, 1) := by decide +kernel
theorem dX3_isShape_36 : decode cX3_isShape 36 = .ok (.ireturn, 1) := by decide +kernel
theorem dX3_addTimer_0 : decode cX3_addTimer 0 = .ok (.aload_n 0, 1) := by decide +kernel
theorem dX3_addTimer_1 : decode cX3_addTimer 1 = .ok (.iload_n 1, 1) := by decide +kernel
theorem dX3_addTimer_2 : decode cX3_addTimer 2 = .ok (.invokevirtual 103, 3) := by decide +kernel
theorem dX3_addTimer_5 : decode cX3_addTimer 5 = .ok (.ifCond .ne 5, 3) := by decide +kernel
theorem dX3_addTimer_8 : decode cX3_addTimer 8 = .ok (.iconst (-1), 1) := by decide +kernel
theorem dX3_addTimer_9 : decode cX3_addTimer 9 = .ok (.ireturn, 1) := by decide +kernel
theorem dX3_addTimer_10 : decode cX3_addTimer 10 = .ok (.iload_n 2, 1) := by decide +kernel
theorem dX3_addTimer_11 : decode cX3_addTimer 11 = .ok (.iconst 1, 1) := by decide +kernel
theorem dX3_addTimer_12 : decode cX3_addTimer 12 = .ok (.sipush 200, 3) := by decide +kernel
theorem dX3_addTimer_15 : decode cX3_addTimer 15 = .ok (.invokestatic 82, 3) := by decide +kernel
theorem dX3_addTimer_18 : decode cX3_addTimer 18 = .ok (.ifCond .eq 22, 3) := by decide +kernel
theorem dX3_addTimer_21 : decode cX3_addTimer 21 = .ok (.iload_n 3, 1) := by decide +kernel
theorem dX3_addTimer_22 : decode cX3_addTimer 22 = .ok (.aload_n 0, 1) := by decide +kernel
theorem dX3_addTimer_23 : decode cX3_addTimer 23 = .ok (.getfield 44, 3) := by decide +kernel
theorem dX3_addTimer_26 : decode cX3_addTimer 26 = .ok (.aload_n 0, 1) := by decide +kernel
theorem dX3_addTimer_27 : decode cX3_addTimer 27 = .ok (.getfield 44, 3) := by decide +kernel
theorem dX3_addTimer_30 : decode cX3_addTimer 30 = .ok (.sipush 500, 3) := by decide +kernel
theorem dX3_addTimer_33 : decode cX3_addTimer 33 = .ok (.iadd, 1) := by decide +kernel
theorem dX3_addTimer_34 : decode cX3_addTimer 34 = .ok (.invokestatic 82, 3) := by decide +kernel
theorem dX3_addTimer_37 : decode cX3_addTimer 37 = .ok (.ifCond .ne 6, 3) := by decide +kernel
theorem dX3_addTimer_40 : decode cX3_addTimer 40 = .ok (.bipush (-2), 2) := by decide +kernel
theorem dX3_addTimer_42 : decode cX3_addTimer 42 = .ok (.ireturn, 1) := by decide +kernel
theorem dX3_addTimer_43 : decode cX3_addTimer 43 = .ok (.aload_n 0, 1) := by decide +kernel
theorem dX3_addTimer_44 : decode cX3_addTimer 44 = .ok (.getfield 61, 3) := by decide +kernel
theorem dX3_addTimer_47 : decode cX3_addTimer 47 = .ok (.bipush 6, 2) := by decide +kernel
theorem dX3_addTimer_49 : decode cX3_addTimer 49 = .ok (.if_icmp .lt 6, 3) := by decide +kernel
theorem dX3_addTimer_52 : decode cX3_addTimer 52 = .ok (.bipush (-4), 2) := by decide +kernel
theorem dX3_addTimer_54 : decode cX3_addTimer 54 = .ok (.ireturn, 1) := by decide +kernel
theorem dX3_addTimer_55 : decode cX3_addTimer 55 = .ok (.aload_n 0, 1) := by decide +kernel
theorem dX3_addTimer_56 : decode cX3_addTimer 56 = .ok (.getfield 25, 3) := by decide +kernel
theorem dX3_addTimer_59 : decode cX3_addTimer 59 = .ok (.iload_n 1, 1) := by decide +kernel
theorem dX3_addTimer_60 : decode cX3_addTimer 60 = .ok (.aaload, 1) := by decide +kernel
theorem dX3_addTimer_61 : decode cX3_addTimer 61 = .ok (.getfield 110, 3) := by decide +kernel
theorem dX3_addTimer_64 : decode cX3_addTimer 64 = .ok (.ifCond .eq 6, 3) := by decide +kernel
theorem dX3_addTimer_67 : decode cX3_addTimer 67 = .ok (.bipush (-5), 2) := by decide +kernel
theorem dX3_addTimer_69 : decode cX3_addTimer 69 = .ok (.ireturn, 1) := by decide +kernel
theorem dX3_addTimer_70 : decode cX3_addTimer 70 = .ok (.aload_n 0, 1) := by decide +kernel
theorem dX3_addTimer_71 : decode cX3_addTimer 71 = .ok (.getfield 32, 3) := by decide +kernel
theorem dX3_addTimer_74 : decode cX3_addTimer 74 = .ok (.aload_n 0, 1) := by decide +kernel
theorem dX3_addTimer_75 : decode cX3_addTimer 75 = .ok (.getfield 61, 3) := by decide +kernel
theorem dX3_addTimer_78 : decode cX3_addTimer 78 = .ok (.aaload, 1) := by decide +kernel
theorem dX3_addTimer_79 : decode cX3_addTimer 79 = .ok (.astore 4, 2) := by decide +kernel
theorem dX3_addTimer_81 : decode cX3_addTimer 81 = .ok (.aload 4, 2) := by decide +kernel
theorem dX3_addTimer_83 : decode cX3_addTimer 83 = .ok (.iload_n 1, 1) := by decide +kernel
theorem dX3_addTimer_84 : decode cX3_addTimer 84 = .ok (.putfield 114, 3) := by decide +kernel
theorem dX3_addTimer_87 : decode cX3_addTimer 87 = .ok (.aload 4, 2) := by decide +kernel
theorem dX3_addTimer_89 : decode cX3_addTimer 89 = .ok (.iload_n 2, 1) := by decide +kernel
theorem dX3_addTimer_90 : decode cX3_addTimer 90 = .ok (.putfield 117, 3) := by decide +kernel
theorem dX3_addTimer_93 : decode cX3_addTimer 93 = .ok (.aload 4, 2) := by decide +kernel
theorem dX3_addTimer_95 : decode cX3_addTimer 95 = .ok (.iload_n 3, 1) := by decide +kernel
theorem dX3_addTimer_96 : decode cX3_addTimer 96 = .ok (.putfield 120, 3) := by decide +kernel
theorem dX3_addTimer_99 : decode cX3_addTimer 99 = .ok (.aload_n 0, 1) := by decide +kernel
theorem dX3_addTimer_100 : decode cX3_addTimer 100 = .ok (.dup, 1) := by decide +kernel
theorem dX3_addTimer_101 : decode cX3_addTimer 101 = .ok (.getfield 61, 3) := by decide +kernel
theorem dX3_addTimer_104 : decode cX3_addTimer 104 = .ok (.iconst 1, 1) := by decide +kernel
theorem dX3_addTimer_105 : decode cX3_addTimer 105 = .ok (.iadd, 1) := by decide +kernel
theorem dX3_addTimer_106 : decode cX3_addTimer 106 = .ok (.putfield 61, 3) := by decide +kernel
theorem dX3_addTimer_109 : decode cX3_addTimer 109 = .ok (.aload_n 0, 1) := by decide +kernel
theorem dX3_addTimer_110 : decode cX3_addTimer 110 = .ok (.getfield 61, 3) := by decide +kernel
theorem dX3_addTimer_113 : decode cX3_addTimer 113 = .ok (.iconst 1, 1) := by decide +kernel
theorem dX3_addTimer_114 : decode cX3_addTimer 114 = .ok (.isub, 1) := by decide +kernel
theorem dX3_addTimer_115 : decode cX3_addTimer 115 = .ok (.ireturn, 1) := by decide +kernel
theorem dX3_removeTimer_0 : decode cX3_removeTimer 0 = .ok (.aload_n 0, 1) := by decide +kernel
theorem dX3_removeTimer_1 : decode cX3_removeTimer 1 = .ok (.iload_n 1, 1) := by decide +kernel
theorem dX3_removeTimer_2 : decode cX3_removeTimer 2 = .ok (.invokevirtual 123, 3) := by decide +kernel
theorem dX3_removeTimer_5 : decode cX3_removeTimer 5 = .ok (.ifCond .ne 5, 3) := by decide +kernel
theorem dX3_removeTimer_8 : decode cX3_removeTimer 8 = .ok (.iconst (-1), 1) := by decide +kernel
theorem dX3_removeTimer_9 : decode cX3_removeTimer 9 = .ok (.ireturn, 1) := by decide +kernel
theorem dX3_removeTimer_10 : decode cX3_removeTimer 10 = .ok (.iload_n 1, 1) := by decide +kernel
theorem dX3_removeTimer_11 : decode cX3_removeTimer 11 = .ok (.istore_n 2, 1) := by decide +kernel
theorem dX3_removeTimer_12 : decode cX3_removeTimer 12 = .ok (.iload_n 2, 1) := by decide +kernel
theorem dX3_removeTimer_13 : decode cX3_removeTimer 13 = .ok (.iconst 1, 1) := by decide +kernel
theorem dX3_removeTimer_14 : decode cX3_removeTimer 14 = .ok (.iadd, 1) := by decide +kernel
theorem dX3_removeTimer_15 : decode cX3_removeTimer 15 = .ok (.aload_n 0, 1) := by decide +kernel
theorem dX3_removeTimer_16 : decode cX3_removeTimer 16 = .ok (.getfield 61, 3) := by decide +kernel
theorem dX3_removeTimer_19 : decode cX3_removeTimer 19 = .ok (.if_icmp .ge 26, 3) := by decide +kernel
theorem dX3_removeTimer_22 : decode cX3_removeTimer 22 = .ok (.aload_n 0, 1) := by decide +kernel
theorem dX3_removeTimer_23 : decode cX3_removeTimer 23 = .ok (.getfield 32, 3) := by decide +kernel
theorem dX3_removeTimer_26 : decode cX3_removeTimer 26 = .ok (.iload_n 2, 1) := by decide +kernel
theorem dX3_removeTimer_27 : decode cX3_removeTimer 27 = .ok (.aaload, 1) := by decide +kernel
theorem dX3_removeTimer_28 : decode cX3_removeTimer 28 = .ok (.aload_n 0, 1) := by decide +kernel
theorem dX3_removeTimer_29 : decode cX3_removeTimer 29 = .ok (.getfield 32, 3) := by decide +kernel
theorem dX3_removeTimer_32 : decode cX3_removeTimer 32 = .ok (.iload_n 2, 1) := by decide +kernel
theorem dX3_removeTimer_33 : decode cX3_removeTimer 33 = .ok (.iconst 1, 1) := by decide +kernel
theorem dX3_removeTimer_34 : decode cX3_removeTimer 34 = .ok (.iadd, 1) := by decide +kernel
theorem dX3_removeTimer_35 : decode cX3_removeTimer 35 = .ok (.aaload, 1) := by decide +kernel
theorem dX3_removeTimer_36 : decode cX3_removeTimer 36 = .ok (.invokevirtual 64, 3) := by decide +kernel
theorem dX3_removeTimer_39 : decode cX3_removeTimer 39 = .ok (.iinc 2 1, 3) := by decide +kernel
theorem dX3_removeTimer_42 : decode cX3_removeTimer 42 = .ok (.goto (-30), 3) := by decide +kernel
theorem dX3_removeTimer_45 : decode cX3_removeTimer 45 = .ok (.aload_n 0, 1) := by decide +kernel
theorem dX3_removeTimer_46 : decode cX3_removeTimer 46 = .ok (.dup, 1) := by decide +kernel
theorem dX3_removeTimer_47 : decode cX3_removeTimer 47 = .ok (.getfield 61, 3) := by decide +kernel
theorem dX3_removeTimer_50 : decode cX3_removeTimer 50 = .ok (.iconst 1, 1) := by decide +kernel
theorem dX3_removeTimer_51 : decode cX3_removeTimer 51 = .ok (.isub, 1) := by decide +kernel
theorem dX3_removeTimer_52 : decode cX3_removeTimer 52 = .ok (.putfield 61, 3) := by decide +kernel
theorem dX3_removeTimer_55 : decode cX3_removeTimer 55 = .ok (.aload_n 0, 1) := by decide +kernel
theorem dX3_removeTimer_56 : decode cX3_removeTimer 56 = .ok (.getfield 61, 3) := by decide +kernel
theorem dX3_removeTimer_59 : decode cX3_removeTimer 59 = .ok (.ireturn, 1) := by decide +kernel
theorem dX3_raiseLine_0 : decode cX3_raiseLine 0 = .ok (.aload_n 0, 1) := by decide +kernel
theorem dX3_raiseLine_1 : decode cX3_raiseLine 1 = .ok (.iload_n 1, 1) := by decide +kernel
theorem dX3_raiseLine_2 : decode cX3_raiseLine 2 = .ok (.invokevirtual 103, 3) := by decide +kernel
theorem dX3_raiseLine_5 : decode cX3_raiseLine 5 = .ok (.ifCond .ne 5, 3) := by decide +kernel
theorem dX3_raiseLine_8 : decode cX3_raiseLine 8 = .ok (.iconst (-1), 1) := by decide +kernel
theorem dX3_raiseLine_9 : decode cX3_raiseLine 9 = .ok (.ireturn, 1) := by decide +kernel
theorem dX3_raiseLine_10 : decode cX3_raiseLine 10 = .ok (.aload_n 0, 1) := by decide +kernel
theorem dX3_raiseLine_11 : decode cX3_raiseLine 11 = .ok (.getfield 25, 3) := by decide +kernel
theorem dX3_raiseLine_14 : decode cX3_raiseLine 14 = .ok (.iload_n 1, 1) := by decide +kernel
theorem dX3_raiseLine_15 : decode cX3_raiseLine 15 = .ok (.aaload, 1) := by decide +kernel
theorem dX3_raiseLine_16 : decode cX3_raiseLine 16 = .ok (.getfield 110, 3) := by decide +kernel
theorem dX3_raiseLine_19 : decode cX3_raiseLine 19 = .ok (.ifCond .eq 6, 3) := by decide +kernel
theorem dX3_raiseLine_22 : decode cX3_raiseLine 22 = .ok (.bipush (-5), 2) := by decide +kernel
theorem dX3_raiseLine_24 : decode cX3_raiseLine 24 = .ok (.ireturn, 1) := by decide +kernel
theorem dX3_raiseLine_25 : decode cX3_raiseLine 25 = .ok (.aload_n 0, 1) := by decide +kernel
theorem dX3_raiseLine_26 : decode cX3_raiseLine 26 = .ok (.getfield 25, 3) := by decide +kernel
theorem dX3_raiseLine_29 : decode cX3_raiseLine 29 = .ok (.iload_n 1, 1) := by decide +kernel
theorem dX3_raiseLine_30 : decode cX3_raiseLine 30 = .ok (.aaload, 1) := by decide +kernel
theorem dX3_raiseLine_31 : decode cX3_raiseLine 31 = .ok (.aload_n 0, 1) := by decide +kernel
theorem dX3_raiseLine_32 : decode cX3_raiseLine 32 = .ok (.getfield 18, 3) := by decide +kernel
theorem dX3_raiseLine_35 : decode cX3_raiseLine 35 = .ok (.iconst 5, 1) := by decide +kernel
theorem dX3_raiseLine_36 : decode cX3_raiseLine 36 = .ok (.iaload, 1) := by decide +kernel
theorem dX3_raiseLine_37 : decode cX3_raiseLine 37 = .ok (.iconst 1, 1) := by decide +kernel
theorem dX3_raiseLine_38 : decode cX3_raiseLine 38 = .ok (.if_icmp .ne 7, 3) := by decide +kernel
theorem dX3_raiseLine_41 : decode cX3_raiseLine 41 = .ok (.iconst 1, 1) := by decide +kernel
theorem dX3_raiseLine_42 : decode cX3_raiseLine 42 = .ok (.goto 4, 3) := by decide +kernel
theorem dX3_raiseLine_45 : decode cX3_raiseLine 45 = .ok (.iconst 0, 1) := by decide +kernel
theorem dX3_raiseLine_46 : decode cX3_raiseLine 46 = .ok (.invokevirtual 126, 3) := by decide +kernel
theorem dX3_raiseLine_49 : decode cX3_raiseLine 49 = .ok (.ifCond .eq 7, 3) := by decide +kernel
theorem dX3_raiseLine_52 : decode cX3_raiseLine 52 = .ok (.iconst 1, 1) := by decide +kernel
theorem dX3_raiseLine_53 : decode cX3_raiseLine 53 = .ok (.goto 4, 3) := by decide +kernel
theorem dX3_raiseLine_56 : decode cX3_raiseLine 56 = .ok (.iconst 0, 1) := by decide +kernel
theorem dX3_raiseLine_57 : decode cX3_raiseLine 57 = .ok (.ireturn, 1) := by decide +kernel
theorem dX3_holdLine_0 : decode cX3_holdLine 0 = .ok (.aload_n 0, 1) := by decide +kernel
theorem dX3_holdLine_1 : decode cX3_holdLine 1 = .ok (.iload_n 1, 1) := by decide +kernel
theorem dX3_holdLine_2 : decode cX3_holdLine 2 = .ok (.invokevirtual 103, 3) := by decide +kernel
theorem dX3_holdLine_5 : decode cX3_holdLine 5 = .ok (.ifCond .ne 5, 3) := by decide +kernel
theorem dX3_holdLine_8 : decode cX3_holdLine 8 = .ok (.iconst (-1), 1) := by decide +kernel
theorem dX3_holdLine_9 : decode cX3_holdLine 9 = .ok (.ireturn, 1) := by decide +kernel
theorem dX3_holdLine_10 : decode cX3_holdLine 10 = .ok (.iload_n 2, 1) := by decide +kernel
theorem dX3_holdLine_11 : decode cX3_holdLine 11 = .ok (.iconst 0, 1) := by decide +kernel
theorem dX3_holdLine_12 : decode cX3_holdLine 12 = .ok (.iconst 3, 1) := by decide +kernel
theorem dX3_holdLine_13 : decode cX3_holdLine 13 = .ok (.invokestatic 82, 3) := by decide +kernel
theorem dX3_holdLine_16 : decode cX3_holdLine 16 = .ok (.ifCond .eq 12, 3) := by decide +kernel
theorem dX3_holdLine_19 : decode cX3_holdLine 19 = .ok (.iload_n 3, 1) := by decide +kernel
theorem dX3_holdLine_20 : decode cX3_holdLine 20 = .ok (.iconst 0, 1) := by decide +kernel
theorem dX3_holdLine_21 : decode cX3_holdLine 21 = .ok (.iconst 1, 1) := by decide +kernel
theorem dX3_holdLine_22 : decode cX3_holdLine 22 = .ok (.invokestatic 82, 3) := by decide +kernel
theorem dX3_holdLine_25 : decode cX3_holdLine 25 = .ok (.ifCond .ne 6, 3) := by decide +kernel
theorem dX3_holdLine_28 : decode cX3_holdLine 28 = .ok (.bipush (-2), 2) := by decide +kernel
theorem dX3_holdLine_30 : decode cX3_holdLine 30 = .ok (.ireturn, 1) := by decide +kernel
theorem dX3_holdLine_31 : decode cX3_holdLine 31 = .ok (.aload_n 0, 1) := by decide +kernel
theorem dX3_holdLine_32 : decode cX3_holdLine 32 = .ok (.getfield 25, 3) := by decide +kernel
theorem dX3_holdLine_35 : decode cX3_holdLine 35 = .ok (.iload_n 1, 1) := by decide +kernel
theorem dX3_holdLine_36 : decode cX3_holdLine 36 = .ok (.aaload, 1) := by decide +kernel
theorem dX3_holdLine_37 : decode cX3_holdLine 37 = .ok (.getfield 110, 3) := by decide +kernel
theorem dX3_holdLine_40 : decode cX3_holdLine 40 = .ok (.ifCond .ne 6, 3) := by decide +kernel
theorem dX3_holdLine_43 : decode cX3_holdLine 43 = .ok (.bipush (-5), 2) := by decide +kernel
theorem dX3_holdLine_45 : decode cX3_holdLine 45 = .ok (.ireturn, 1) := by decide +kernel
theorem dX3_holdLine_46 : decode cX3_holdLine 46 = .ok (.aload_n 0, 1) := by decide +kernel
theorem dX3_holdLine_47 : decode cX3_holdLine 47 = .ok (.getfield 25, 3) := by decide +kernel
theorem dX3_holdLine_50 : decode cX3_holdLine 50 = .ok (.iload_n 1, 1) := by decide +kernel
theorem dX3_holdLine_51 : decode cX3_holdLine 51 = .ok (.aaload, 1) := by decide +kernel
theorem dX3_holdLine_52 : decode cX3_holdLine 52 = .ok (.iload_n 2, 1) := by decide +kernel
theorem dX3_holdLine_53 : decode cX3_holdLine 53 = .ok (.iload_n 3, 1) := by decide +kernel
theorem dX3_holdLine_54 : decode cX3_holdLine 54 = .ok (.iconst 1, 1) := by decide +kernel
theorem dX3_holdLine_55 : decode cX3_holdLine 55 = .ok (.if_icmp .ne 7, 3) := by decide +kernel
theorem dX3_holdLine_58 : decode cX3_holdLine 58 = .ok (.iconst 1, 1) := by decide +kernel
theorem dX3_holdLine_59 : decode cX3_holdLine 59 = .ok (.goto 4, 3) := by decide +kernel
theorem dX3_holdLine_62 : decode cX3_holdLine 62 = .ok (.iconst 0, 1) := by decide +kernel
theorem dX3_holdLine_63 : decode cX3_holdLine 63 = .ok (.invokevirtual 130, 3) := by decide +kernel
theorem dX3_holdLine_66 : decode cX3_holdLine 66 = .ok (.aload_n 0, 1) := by decide +kernel
theorem dX3_holdLine_67 : decode cX3_holdLine 67 = .ok (.getfield 25, 3) := by decide +kernel
theorem dX3_holdLine_70 : decode cX3_holdLine 70 = .ok (.iload_n 1, 1) := by decide +kernel
theorem dX3_holdLine_71 : decode cX3_holdLine 71 = .ok (.aaload, 1) := by decide +kernel
theorem dX3_holdLine_72 : decode cX3_holdLine 72 = .ok (.getfield 134, 3) := by decide +kernel
theorem dX3_holdLine_75 : decode cX3_holdLine 75 = .ok (.ireturn, 1) := by decide +kernel
theorem dX3_maskLine_0 : decode cX3_maskLine 0 = .ok (.aload_n 0, 1) := by decide +kernel
theorem dX3_maskLine_1 : decode cX3_maskLine 1 = .ok (.iload_n 1, 1) := by decide +kernel
theorem dX3_maskLine_2 : decode cX3_maskLine 2 = .ok (.invokevirtual 103, 3) := by decide +kernel
theorem dX3_maskLine_5 : decode cX3_maskLine 5 = .ok (.ifCond .ne 5, 3) := by decide +kernel
theorem dX3_maskLine_8 : decode cX3_maskLine 8 = .ok (.iconst (-1), 1) := by decide +kernel
theorem dX3_maskLine_9 : decode cX3_maskLine 9 = .ok (.ireturn, 1) := by decide +kernel
theorem dX3_maskLine_10 : decode cX3_maskLine 10 = .ok (.iload_n 2, 1) := by decide +kernel
theorem dX3_maskLine_11 : decode cX3_maskLine 11 = .ok (.iconst 0, 1) := by decide +kernel
theorem dX3_maskLine_12 : decode cX3_maskLine 12 = .ok (.iconst 1, 1) := by decide +kernel
theorem dX3_maskLine_13 : decode cX3_maskLine 13 = .ok (.invokestatic 82, 3) := by decide +kernel
theorem dX3_maskLine_16 : decode cX3_maskLine 16 = .ok (.ifCond .ne 6, 3) := by decide +kernel
theorem dX3_maskLine_19 : decode cX3_maskLine 19 = .ok (.bipush (-2), 2) := by decide +kernel
theorem dX3_maskLine_21 : decode cX3_maskLine 21 = .ok (.ireturn, 1) := by decide +kernel
theorem dX3_maskLine_22 : decode cX3_maskLine 22 = .ok (.aload_n 0, 1) := by decide +kernel
theorem dX3_maskLine_23 : decode cX3_maskLine 23 = .ok (.getfield 25, 3) := by decide +kernel
theorem dX3_maskLine_26 : decode cX3_maskLine 26 = .ok (.iload_n 1, 1) := by decide +kernel
theorem dX3_maskLine_27 : decode cX3_maskLine 27 = .ok (.aaload, 1) := by decide +kernel
theorem dX3_maskLine_28 : decode cX3_maskLine 28 = .ok (.getfield 137, 3) := by decide +kernel
theorem dX3_maskLine_31 : decode cX3_maskLine 31 = .ok (.ifCond .eq 7, 3) := by decide +kernel
theorem dX3_maskLine_34 : decode cX3_maskLine 34 = .ok (.iconst 1, 1) := by decide +kernel
theorem dX3_maskLine_35 : decode cX3_maskLine 35 = .ok (.goto 4, 3) := by decide +kernel
theorem dX3_maskLine_38 : decode cX3_maskLine 38 = .ok (.iconst 0, 1) := by decide +kernel
theorem dX3_maskLine_39 : decode cX3_maskLine 39 = .ok (.istore_n 3, 1) := by decide +kernel
theorem dX3_maskLine_40 : decode cX3_maskLine 40 = .ok (.aload_n 0, 1) := by decide +kernel
theorem dX3_maskLine_41 : decode cX3_maskLine 41 = .ok (.getfield 25, 3) := by decide +kernel
theorem dX3_maskLine_44 : decode cX3_maskLine 44 = .ok (.iload_n 1, 1) := by decide +kernel
theorem dX3_maskLine_45 : decode cX3_maskLine 45 = .ok (.aaload, 1) := by decide +kernel
theorem dX3_maskLine_46 : decode cX3_maskLine 46 = .ok (.iload_n 2, 1) := by decide +kernel
theorem dX3_maskLine_47 : decode cX3_maskLine 47 = .ok (.iconst 1, 1) := by decide +kernel
theorem dX3_maskLine_48 : decode cX3_maskLine 48 = .ok (.if_icmp .ne 7, 3) := by decide +kernel
theorem dX3_maskLine_51 : decode cX3_maskLine 51 = .ok (.iconst 1, 1) := by decide +kernel
theorem dX3_maskLine_52 : decode cX3_maskLine 52 = .ok (.goto 4, 3) := by decide +kernel
theorem dX3_maskLine_55 : decode cX3_maskLine 55 = .ok (.iconst 0, 1) := by decide +kernel
theorem dX3_maskLine_56 : decode cX3_maskLine 56 = .ok (.putfield 137, 3) := by decide +kernel
theorem dX3_maskLine_59 : decode cX3_maskLine 59 = .ok (.iload_n 3, 1) := by decide +kernel
theorem dX3_maskLine_60 : decode cX3_maskLine 60 = .ok (.ireturn, 1) := by decide +kernel
theorem dX3_passTicks_0 : decode cX3_passTicks 0 = .ok (.iload_n 1, 1) := by decide +kernel
theorem dX3_passTicks_1 : decode cX3_passTicks 1 = .ok (.iconst 1, 1) := by decide +kernel
theorem dX3_passTicks_2 : decode cX3_passTicks 2 = .ok (.sipush 500, 3) := by decide +kernel
theorem dX3_passTicks_5 : decode cX3_passTicks 5 = .ok (.invokestatic 82, 3) := by decide +kernel
theorem dX3_passTicks_8 : decode cX3_passTicks 8 = .ok (.ifCond .ne 6, 3) := by decide +kernel
theorem dX3_passTicks_11 : decode cX3_passTicks 11 = .ok (.bipush (-2), 2) := by decide +kernel
theorem dX3_passTicks_13 : decode cX3_passTicks 13 = .ok (.ireturn, 1) := by decide +kernel
theorem dX3_passTicks_14 : decode cX3_passTicks 14 = .ok (.iconst 0, 1) := by decide +kernel
theorem dX3_passTicks_15 : decode cX3_passTicks 15 = .ok (.istore_n 2, 1) := by decide +kernel
theorem dX3_passTicks_16 : decode cX3_passTicks 16 = .ok (.iload_n 2, 1) := by decide +kernel
theorem dX3_passTicks_17 : decode cX3_passTicks 17 = .ok (.iload_n 1, 1) := by decide +kernel
theorem dX3_passTicks_18 : decode cX3_passTicks 18 = .ok (.if_icmp .ge 14, 3) := by decide +kernel
theorem dX3_passTicks_21 : decode cX3_passTicks 21 = .ok (.aload_n 0, 1) := by decide +kernel
theorem dX3_passTicks_22 : decode cX3_passTicks 22 = .ok (.invokevirtual 140, 3) := by decide +kernel
theorem dX3_passTicks_25 : decode cX3_passTicks 25 = .ok (.pop, 1) := by decide +kernel
theorem dX3_passTicks_26 : decode cX3_passTicks 26 = .ok (.iinc 2 1, 3) := by decide +kernel
theorem dX3_passTicks_29 : decode cX3_passTicks 29 = .ok (.goto (-13), 3) := by decide +kernel
theorem dX3_passTicks_32 : decode cX3_passTicks 32 = .ok (.aload_n 0, 1) := by decide +kernel
theorem dX3_passTicks_33 : decode cX3_passTicks 33 = .ok (.getfield 44, 3) := by decide +kernel
theorem dX3_passTicks_36 : decode cX3_passTicks 36 = .ok (.ireturn, 1) := by decide +kernel
theorem dX3_passTick_0 : decode cX3_passTick 0 = .ok (.aload_n 0, 1) := by decide +kernel
theorem dX3_passTick_1 : decode cX3_passTick 1 = .ok (.invokevirtual 144, 3) := by decide +kernel
theorem dX3_passTick_4 : decode cX3_passTick 4 = .ok (.aload_n 0, 1) := by decide +kernel
theorem dX3_passTick_5 : decode cX3_passTick 5 = .ok (.invokevirtual 147, 3) := by decide +kernel
theorem dX3_passTick_8 : decode cX3_passTick 8 = .ok (.istore_n 1, 1) := by decide +kernel
theorem dX3_passTick_9 : decode cX3_passTick 9 = .ok (.aload_n 0, 1) := by decide +kernel
theorem dX3_passTick_10 : decode cX3_passTick 10 = .ok (.invokevirtual 150, 3) := by decide +kernel
theorem dX3_passTick_13 : decode cX3_passTick 13 = .ok (.aload_n 0, 1) := by decide +kernel
theorem dX3_passTick_14 : decode cX3_passTick 14 = .ok (.invokevirtual 153, 3) := by decide +kernel
theorem dX3_passTick_17 : decode cX3_passTick 17 = .ok (.aload_n 0, 1) := by decide +kernel
theorem dX3_passTick_18 : decode cX3_passTick 18 = .ok (.dup, 1) := by decide +kernel
theorem dX3_passTick_19 : decode cX3_passTick 19 = .ok (.getfield 44, 3) := by decide +kernel
theorem dX3_passTick_22 : decode cX3_passTick 22 = .ok (.iconst 1, 1) := by decide +kernel
theorem dX3_passTick_23 : decode cX3_passTick 23 = .ok (.iadd, 1) := by decide +kernel
theorem dX3_passTick_24 : decode cX3_passTick 24 = .ok (.putfield 44, 3) := by decide +kernel
theorem dX3_passTick_27 : decode cX3_passTick 27 = .ok (.iload_n 1, 1) := by decide +kernel
theorem dX3_passTick_28 : decode cX3_passTick 28 = .ok (.ireturn, 1) := by decide +kernel
theorem dX3_raiseByTimers_0 : decode cX3_raiseByTimers 0 = .ok (.iconst 0, 1) := by decide +kernel
theorem dX3_raiseByTimers_1 : decode cX3_raiseByTimers 1 = .ok (.istore_n 1, 1) := by decide +kernel
theorem dX3_raiseByTimers_2 : decode cX3_raiseByTimers 2 = .ok (.iload_n 1, 1) := by decide +kernel
theorem dX3_raiseByTimers_3 : decode cX3_raiseByTimers 3 = .ok (.aload_n 0, 1) := by decide +kernel
theorem dX3_raiseByTimers_4 : decode cX3_raiseByTimers 4 = .ok (.getfield 61, 3) := by decide +kernel
theorem dX3_raiseByTimers_7 : decode cX3_raiseByTimers 7 = .ok (.if_icmp .ge 68, 3) := by decide +kernel
theorem dX3_raiseByTimers_10 : decode cX3_raiseByTimers 10 = .ok (.aload_n 0, 1) := by decide +kernel
theorem dX3_raiseByTimers_11 : decode cX3_raiseByTimers 11 = .ok (.getfield 32, 3) := by decide +kernel
theorem dX3_raiseByTimers_14 : decode cX3_raiseByTimers 14 = .ok (.iload_n 1, 1) := by decide +kernel
theorem dX3_raiseByTimers_15 : decode cX3_raiseByTimers 15 = .ok (.aaload, 1) := by decide +kernel
theorem dX3_raiseByTimers_16 : decode cX3_raiseByTimers 16 = .ok (.astore_n 2, 1) := by decide +kernel
theorem dX3_raiseByTimers_17 : decode cX3_raiseByTimers 17 = .ok (.aload_n 2, 1) := by decide +kernel
theorem dX3_raiseByTimers_18 : decode cX3_raiseByTimers 18 = .ok (.getfield 120, 3) := by decide +kernel
theorem dX3_raiseByTimers_21 : decode cX3_raiseByTimers 21 = .ok (.aload_n 0, 1) := by decide +kernel
theorem dX3_raiseByTimers_22 : decode cX3_raiseByTimers 22 = .ok (.getfield 44, 3) := by decide +kernel
theorem dX3_raiseByTimers_25 : decode cX3_raiseByTimers 25 = .ok (.if_icmp .gt 44, 3) := by decide +kernel
theorem dX3_raiseByTimers_28 : decode cX3_raiseByTimers 28 = .ok (.aload_n 0, 1) := by decide +kernel
theorem dX3_raiseByTimers_29 : decode cX3_raiseByTimers 29 = .ok (.getfield 25, 3) := by decide +kernel
theorem dX3_raiseByTimers_32 : decode cX3_raiseByTimers 32 = .ok (.aload_n 2, 1) := by decide +kernel
theorem dX3_raiseByTimers_33 : decode cX3_raiseByTimers 33 = .ok (.getfield 114, 3) := by decide +kernel
theorem dX3_raiseByTimers_36 : decode cX3_raiseByTimers 36 = .ok (.aaload, 1) := by decide +kernel
theorem dX3_raiseByTimers_37 : decode cX3_raiseByTimers 37 = .ok (.aload_n 0, 1) := by decide +kernel
theorem dX3_raiseByTimers_38 : decode cX3_raiseByTimers 38 = .ok (.getfield 18, 3) := by decide +kernel
theorem dX3_raiseByTimers_41 : decode cX3_raiseByTimers 41 = .ok (.iconst 5, 1) := by decide +kernel
theorem dX3_raiseByTimers_42 : decode cX3_raiseByTimers 42 = .ok (.iaload, 1) := by decide +kernel
theorem dX3_raiseByTimers_43 : decode cX3_raiseByTimers 43 = .ok (.iconst 1, 1) := by decide +kernel
theorem dX3_raiseByTimers_44 : decode cX3_raiseByTimers 44 = .ok (.if_icmp .ne 7, 3) := by decide +kernel
theorem dX3_raiseByTimers_47 : decode cX3_raiseByTimers 47 = .ok (.iconst 1, 1) := by decide +kernel
theorem dX3_raiseByTimers_48 : decode cX3_raiseByTimers 48 = .ok (.goto 4, 3) := by decide +kernel
theorem dX3_raiseByTimers_51 : decode cX3_raiseByTimers 51 = .ok (.iconst 0, 1) := by decide +kernel
theorem dX3_raiseByTimers_52 : decode cX3_raiseByTimers 52 = .ok (.invokevirtual 126, 3) := by decide +kernel
theorem dX3_raiseByTimers_55 : decode cX3_raiseByTimers 55 = .ok (.pop, 1) := by decide +kernel
theorem dX3_raiseByTimers_56 : decode cX3_raiseByTimers 56 = .ok (.aload_n 2, 1) := by decide +kernel
theorem dX3_raiseByTimers_57 : decode cX3_raiseByTimers 57 = .ok (.dup, 1) := by decide +kernel
theorem dX3_raiseByTimers_58 : decode cX3_raiseByTimers 58 = .ok (.getfield 120, 3) := by decide +kernel
theorem dX3_raiseByTimers_61 : decode cX3_raiseByTimers 61 = .ok (.aload_n 2, 1) := by decide +kernel
theorem dX3_raiseByTimers_62 : decode cX3_raiseByTimers 62 = .ok (.getfield 117, 3) := by decide +kernel
theorem dX3_raiseByTimers_65 : decode cX3_raiseByTimers 65 = .ok (.iadd, 1) := by decide +kernel
theorem dX3_raiseByTimers_66 : decode cX3_raiseByTimers 66 = .ok (.putfield 120, 3) := by decide +kernel
theorem dX3_raiseByTimers_69 : decode cX3_raiseByTimers 69 = .ok (.iinc 1 1, 3) := by decide +kernel
theorem dX3_raiseByTimers_72 : decode cX3_raiseByTimers 72 = .ok (.goto (-70), 3) := by decide +kernel
theorem dX3_raiseByTimers_75 : decode cX3_raiseByTimers 75 = .ok (.return_, 1) := by decide +kernel
theorem dX3_foundLine_0 : decode cX3_foundLine 0 = .ok (.bipush (-6), 2) := by decide +kernel
theorem dX3_foundLine_2 : decode cX3_foundLine 2 = .ok (.istore_n 1, 1) := by decide +kernel
theorem dX3_foundLine_3 : decode cX3_foundLine 3 = .ok (.iconst 0, 1) := by decide +kernel
theorem dX3_foundLine_4 : decode cX3_foundLine 4 = .ok (.istore_n 2, 1) := by decide +kernel
theorem dX3_foundLine_5 : decode cX3_foundLine 5 = .ok (.iconst 0, 1) := by decide +kernel
theorem dX3_foundLine_6 : decode cX3_foundLine 6 = .ok (.istore_n 3, 1) := by decide +kernel
theorem dX3_foundLine_7 : decode cX3_foundLine 7 = .ok (.iload_n 3, 1) := by decide +kernel
theorem dX3_foundLine_8 : decode cX3_foundLine 8 = .ok (.aload_n 0, 1) := by decide +kernel
theorem dX3_foundLine_9 : decode cX3_foundLine 9 = .ok (.getfield 54, 3) := by decide +kernel
theorem dX3_foundLine_12 : decode cX3_foundLine 12 = .ok (.if_icmp .ge 118, 3) := by decide +kernel
theorem dX3_foundLine_15 : decode cX3_foundLine 15 = .ok (.aload_n 0, 1) := by decide +kernel
theorem dX3_foundLine_16 : decode cX3_foundLine 16 = .ok (.getfield 25, 3) := by decide +kernel
theorem dX3_foundLine_19 : decode cX3_foundLine 19 = .ok (.iload_n 3, 1) := by decide +kernel
theorem dX3_foundLine_20 : decode cX3_foundLine 20 = .ok (.aaload, 1) := by decide +kernel
theorem dX3_foundLine_21 : decode cX3_foundLine 21 = .ok (.invokevirtual 156, 3) := by decide +kernel
theorem dX3_foundLine_24 : decode cX3_foundLine 24 = .ok (.ifCond .ne 6, 3) := by decide +kernel
theorem dX3_foundLine_27 : decode cX3_foundLine 27 = .ok (.goto 97, 3) := by decide +kernel
theorem dX3_foundLine_30 : decode cX3_foundLine 30 = .ok (.aload_n 0, 1) := by decide +kernel
theorem dX3_foundLine_31 : decode cX3_foundLine 31 = .ok (.getfield 25, 3) := by decide +kernel
theorem dX3_foundLine_34 : decode cX3_foundLine 34 = .ok (.iload_n 3, 1) := by decide +kernel
theorem dX3_foundLine_35 : decode cX3_foundLine 35 = .ok (.aaload, 1) := by decide +kernel
theorem dX3_foundLine_36 : decode cX3_foundLine 36 = .ok (.aload_n 0, 1) := by decide +kernel
theorem dX3_foundLine_37 : decode cX3_foundLine 37 = .ok (.getfield 18, 3) := by decide +kernel
theorem dX3_foundLine_40 : decode cX3_foundLine 40 = .ok (.iconst 0, 1) := by decide +kernel
theorem dX3_foundLine_41 : decode cX3_foundLine 41 = .ok (.iaload, 1) := by decide +kernel
theorem dX3_foundLine_42 : decode cX3_foundLine 42 = .ok (.aload_n 0, 1) := by decide +kernel
theorem dX3_foundLine_43 : decode cX3_foundLine 43 = .ok (.getfield 18, 3) := by decide +kernel
theorem dX3_foundLine_46 : decode cX3_foundLine 46 = .ok (.iconst 1, 1) := by decide +kernel
theorem dX3_foundLine_47 : decode cX3_foundLine 47 = .ok (.iaload, 1) := by decide +kernel
theorem dX3_foundLine_48 : decode cX3_foundLine 48 = .ok (.invokevirtual 160, 3) := by decide +kernel
theorem dX3_foundLine_51 : decode cX3_foundLine 51 = .ok (.istore 4, 2) := by decide +kernel
theorem dX3_foundLine_53 : decode cX3_foundLine 53 = .ok (.iload 4, 2) := by decide +kernel
theorem dX3_foundLine_55 : decode cX3_foundLine 55 = .ok (.aload_n 0, 1) := by decide +kernel
theorem dX3_foundLine_56 : decode cX3_foundLine 56 = .ok (.getfield 18, 3) := by decide +kernel
theorem dX3_foundLine_59 : decode cX3_foundLine 59 = .ok (.bipush 6, 2) := by decide +kernel
theorem dX3_foundLine_61 : decode cX3_foundLine 61 = .ok (.iaload, 1) := by decide +kernel
theorem dX3_foundLine_62 : decode cX3_foundLine 62 = .ok (.if_icmp .ge 6, 3) := by decide +kernel
theorem dX3_foundLine_65 : decode cX3_foundLine 65 = .ok (.goto 59, 3) := by decide +kernel
theorem dX3_foundLine_68 : decode cX3_foundLine 68 = .ok (.iload_n 1, 1) := by decide +kernel
theorem dX3_foundLine_69 : decode cX3_foundLine 69 = .ok (.bipush (-6), 2) := by decide +kernel
theorem dX3_foundLine_71 : decode cX3_foundLine 71 = .ok (.if_icmp .eq 36, 3) := by decide +kernel
theorem dX3_foundLine_74 : decode cX3_foundLine 74 = .ok (.iload 4, 2) := by decide +kernel
theorem dX3_foundLine_76 : decode cX3_foundLine 76 = .ok (.iload_n 2, 1) := by decide +kernel
theorem dX3_foundLine_77 : decode cX3_foundLine 77 = .ok (.if_icmp .gt 30, 3) := by decide +kernel
theorem dX3_foundLine_80 : decode cX3_foundLine 80 = .ok (.iload 4, 2) := by decide +kernel
theorem dX3_foundLine_82 : decode cX3_foundLine 82 = .ok (.iload_n 2, 1) := by decide +kernel
theorem dX3_foundLine_83 : decode cX3_foundLine 83 = .ok (.if_icmp .ne 28, 3) := by decide +kernel
theorem dX3_foundLine_86 : decode cX3_foundLine 86 = .ok (.aload_n 0, 1) := by decide +kernel
theorem dX3_foundLine_87 : decode cX3_foundLine 87 = .ok (.getfield 25, 3) := by decide +kernel
theorem dX3_foundLine_90 : decode cX3_foundLine 90 = .ok (.iload_n 3, 1) := by decide +kernel
theorem dX3_foundLine_91 : decode cX3_foundLine 91 = .ok (.aaload, 1) := by decide +kernel
theorem dX3_foundLine_92 : decode cX3_foundLine 92 = .ok (.getfield 164, 3) := by decide +kernel
theorem dX3_foundLine_95 : decode cX3_foundLine 95 = .ok (.aload_n 0, 1) := by decide +kernel
theorem dX3_foundLine_96 : decode cX3_foundLine 96 = .ok (.getfield 25, 3) := by decide +kernel
theorem dX3_foundLine_99 : decode cX3_foundLine 99 = .ok (.iload_n 1, 1) := by decide +kernel
theorem dX3_foundLine_100 : decode cX3_foundLine 100 = .ok (.aaload, 1) := by decide +kernel
theorem dX3_foundLine_101 : decode cX3_foundLine 101 = .ok (.getfield 164, 3) := by decide +kernel
theorem dX3_foundLine_104 : decode cX3_foundLine 104 = .ok (.if_icmp .le 7, 3) := by decide +kernel
theorem dX3_foundLine_107 : decode cX3_foundLine 107 = .ok (.iconst 1, 1) := by decide +kernel
theorem dX3_foundLine_108 : decode cX3_foundLine 108 = .ok (.goto 4, 3) := by decide +kernel
theorem dX3_foundLine_111 : decode cX3_foundLine 111 = .ok (.iconst 0, 1) := by decide +kernel
theorem dX3_foundLine_112 : decode cX3_foundLine 112 = .ok (.istore 5, 2) := by decide +kernel
theorem dX3_foundLine_114 : decode cX3_foundLine 114 = .ok (.iload 5, 2) := by decide +kernel
theorem dX3_foundLine_116 : decode cX3_foundLine 116 = .ok (.ifCond .eq 8, 3) := by decide +kernel
theorem dX3_foundLine_119 : decode cX3_foundLine 119 = .ok (.iload_n 3, 1) := by decide +kernel
theorem dX3_foundLine_120 : decode cX3_foundLine 120 = .ok (.istore_n 1, 1) := by decide +kernel
theorem dX3_foundLine_121 : decode cX3_foundLine 121 = .ok (.iload 4, 2) := by decide +kernel
theorem dX3_foundLine_123 : decode cX3_foundLine 123 = .ok (.istore_n 2, 1) := by decide +kernel
theorem dX3_foundLine_124 : decode cX3_foundLine 124 = .ok (.iinc 3 1, 3) := by decide +kernel
theorem dX3_foundLine_127 : decode cX3_foundLine 127 = .ok (.goto (-120), 3) := by decide +kernel
theorem dX3_foundLine_130 : decode cX3_foundLine 130 = .ok (.iload_n 1, 1) := by decide +kernel
theorem dX3_foundLine_131 : decode cX3_foundLine 131 = .ok (.ireturn, 1) := by decide +kernel
theorem dX3_beginFoundLine_0 : decode cX3_beginFoundLine 0 = .ok (.aload_n 0, 1) := by decide +kernel
theorem dX3_beginFoundLine_1 : decode cX3_beginFoundLine 1 = .ok (.invokevirtual 167, 3) := by decide +kernel
theorem dX3_beginFoundLine_4 : decode cX3_beginFoundLine 4 = .ok (.istore_n 1, 1) := by decide +kernel
theorem dX3_beginFoundLine_5 : decode cX3_beginFoundLine 5 = .ok (.iload_n 1, 1) := by decide +kernel
theorem dX3_beginFoundLine_6 : decode cX3_beginFoundLine 6 = .ok (.bipush (-6), 2) := by decide +kernel
theorem dX3_beginFoundLine_8 : decode cX3_beginFoundLine 8 = .ok (.if_icmp .ne 6, 3) := by decide +kernel
theorem dX3_beginFoundLine_11 : decode cX3_beginFoundLine 11 = .ok (.bipush (-6), 2) := by decide +kernel
theorem dX3_beginFoundLine_13 : decode cX3_beginFoundLine 13 = .ok (.ireturn, 1) := by decide +kernel
theorem dX3_beginFoundLine_14 : decode cX3_beginFoundLine 14 = .ok (.aload_n 0, 1) := by decide +kernel
theorem dX3_beginFoundLine_15 : decode cX3_beginFoundLine 15 = .ok (.getfield 25, 3) := by decide +kernel
theorem dX3_beginFoundLine_18 : decode cX3_beginFoundLine 18 = .ok (.iload_n 1, 1) := by decide +kernel
theorem dX3_beginFoundLine_19 : decode cX3_beginFoundLine 19 = .ok (.aaload, 1) := by decide +kernel
theorem dX3_beginFoundLine_20 : decode cX3_beginFoundLine 20 = .ok (.astore_n 2, 1) := by decide +kernel
theorem dX3_beginFoundLine_21 : decode cX3_beginFoundLine 21 = .ok (.aload_n 2, 1) := by decide +kernel
theorem dX3_beginFoundLine_22 : decode cX3_beginFoundLine 22 = .ok (.aload_n 0, 1) := by decide +kernel
theorem dX3_beginFoundLine_23 : decode cX3_beginFoundLine 23 = .ok (.getfield 18, 3) := by decide +kernel
theorem dX3_beginFoundLine_26 : decode cX3_beginFoundLine 26 = .ok (.iconst 0, 1) := by decide +kernel
theorem dX3_beginFoundLine_27 : decode cX3_beginFoundLine 27 = .ok (.iaload, 1) := by decide +kernel
theorem dX3_beginFoundLine_28 : decode cX3_beginFoundLine 28 = .ok (.aload_n 0, 1) := by decide +kernel
theorem dX3_beginFoundLine_29 : decode cX3_beginFoundLine 29 = .ok (.getfield 18, 3) := by decide +kernel
theorem dX3_beginFoundLine_32 : decode cX3_beginFoundLine 32 = .ok (.iconst 1, 1) := by decide +kernel
theorem dX3_beginFoundLine_33 : decode cX3_beginFoundLine 33 = .ok (.iaload, 1) := by decide +kernel
theorem dX3_beginFoundLine_34 : decode cX3_beginFoundLine 34 = .ok (.invokevirtual 160, 3) := by decide +kernel
theorem dX3_beginFoundLine_37 : decode cX3_beginFoundLine 37 = .ok (.istore_n 3, 1) := by decide +kernel
theorem dX3_beginFoundLine_38 : decode cX3_beginFoundLine 38 = .ok (.aload_n 0, 1) := by decide +kernel
theorem dX3_beginFoundLine_39 : decode cX3_beginFoundLine 39 = .ok (.iload_n 3, 1) := by decide +kernel
theorem dX3_beginFoundLine_40 : decode cX3_beginFoundLine 40 = .ok (.invokevirtual 170, 3) := by decide +kernel
theorem dX3_beginFoundLine_43 : decode cX3_beginFoundLine 43 = .ok (.ifCond .ne 6, 3) := by decide +kernel
theorem dX3_beginFoundLine_46 : decode cX3_beginFoundLine 46 = .ok (.bipush (-6), 2) := by decide +kernel
theorem dX3_beginFoundLine_48 : decode cX3_beginFoundLine 48 = .ok (.ireturn, 1) := by decide +kernel
theorem dX3_beginFoundLine_49 : decode cX3_beginFoundLine 49 = .ok (.aload_n 0, 1) := by decide +kernel
theorem dX3_beginFoundLine_50 : decode cX3_beginFoundLine 50 = .ok (.getfield 67, 3) := by decide +kernel
theorem dX3_beginFoundLine_53 : decode cX3_beginFoundLine 53 = .ok (.ifCond .le 13, 3) := by decide +kernel
theorem dX3_beginFoundLine_56 : decode cX3_beginFoundLine 56 = .ok (.aload_n 0, 1) := by decide +kernel
theorem dX3_beginFoundLine_57 : decode cX3_beginFoundLine 57 = .ok (.dup, 1) := by decide +kernel
theorem dX3_beginFoundLine_58 : decode cX3_beginFoundLine 58 = .ok (.getfield 79, 3) := by decide +kernel
theorem dX3_beginFoundLine_61 : decode cX3_beginFoundLine 61 = .ok (.iconst 1, 1) := by decide +kernel
theorem dX3_beginFoundLine_62 : decode cX3_beginFoundLine 62 = .ok (.iadd, 1) := by decide +kernel
theorem dX3_beginFoundLine_63 : decode cX3_beginFoundLine 63 = .ok (.putfield 79, 3) := by decide +kernel
theorem dX3_beginFoundLine_66 : decode cX3_beginFoundLine 66 = .ok (.aload_n 0, 1) := by decide +kernel
theorem dX3_beginFoundLine_67 : decode cX3_beginFoundLine 67 = .ok (.getfield 39, 3) := by decide +kernel
theorem dX3_beginFoundLine_70 : decode cX3_beginFoundLine 70 = .ok (.aload_n 0, 1) := by decide +kernel
theorem dX3_beginFoundLine_71 : decode cX3_beginFoundLine 71 = .ok (.getfield 67, 3) := by decide +kernel
theorem dX3_beginFoundLine_74 : decode cX3_beginFoundLine 74 = .ok (.aaload, 1) := by decide +kernel
theorem dX3_beginFoundLine_75 : decode cX3_beginFoundLine 75 = .ok (.astore 4, 2) := by decide +kernel
theorem dX3_beginFoundLine_77 : decode cX3_beginFoundLine 77 = .ok (.aload 4, 2) := by decide +kernel
theorem dX3_beginFoundLine_79 : decode cX3_beginFoundLine 79 = .ok (.iload_n 1, 1) := by decide +kernel
theorem dX3_beginFoundLine_80 : decode cX3_beginFoundLine 80 = .ok (.putfield 173, 3) := by decide +kernel
theorem dX3_beginFoundLine_83 : decode cX3_beginFoundLine 83 = .ok (.aload 4, 2) := by decide +kernel
theorem dX3_beginFoundLine_85 : decode cX3_beginFoundLine 85 = .ok (.iload_n 3, 1) := by decide +kernel
theorem dX3_beginFoundLine_86 : decode cX3_beginFoundLine 86 = .ok (.putfield 174, 3) := by decide +kernel
theorem dX3_beginFoundLine_89 : decode cX3_beginFoundLine 89 = .ok (.aload 4, 2) := by decide +kernel
theorem dX3_beginFoundLine_91 : decode cX3_beginFoundLine 91 = .ok (.aload_n 0, 1) := by decide +kernel
theorem dX3_beginFoundLine_92 : decode cX3_beginFoundLine 92 = .ok (.iload_n 1, 1) := by decide +kernel
theorem dX3_beginFoundLine_93 : decode cX3_beginFoundLine 93 = .ok (.invokevirtual 175, 3) := by decide +kernel
theorem dX3_beginFoundLine_96 : decode cX3_beginFoundLine 96 = .ok (.putfield 179, 3) := by decide +kernel
theorem dX3_beginFoundLine_99 : decode cX3_beginFoundLine 99 = .ok (.aload 4, 2) := by decide +kernel
theorem dX3_beginFoundLine_101 : decode cX3_beginFoundLine 101 = .ok (.aload_n 0, 1) := by decide +kernel
theorem dX3_beginFoundLine_102 : decode cX3_beginFoundLine 102 = .ok (.getfield 44, 3) := by decide +kernel
theorem dX3_beginFoundLine_105 : decode cX3_beginFoundLine 105 = .ok (.putfield 182, 3) := by decide +kernel
theorem dX3_beginFoundLine_108 : decode cX3_beginFoundLine 108 = .ok (.aload_n 2, 1) := by decide +kernel
theorem dX3_beginFoundLine_109 : decode cX3_beginFoundLine 109 = .ok (.aload_n 0, 1) := by decide +kernel
theorem dX3_beginFoundLine_110 : decode cX3_beginFoundLine 110 = .ok (.getfield 67, 3) := by decide +kernel
theorem dX3_beginFoundLine_113 : decode cX3_beginFoundLine 113 = .ok (.invokevirtual 185, 3) := by decide +kernel
theorem dX3_beginFoundLine_116 : decode cX3_beginFoundLine 116 = .ok (.aload_n 0, 1) := by decide +kernel
theorem dX3_beginFoundLine_117 : decode cX3_beginFoundLine 117 = .ok (.dup, 1) := by decide +kernel
theorem dX3_beginFoundLine_118 : decode cX3_beginFoundLine 118 = .ok (.getfield 67, 3) := by decide +kernel
theorem dX3_beginFoundLine_121 : decode cX3_beginFoundLine 121 = .ok (.iconst 1, 1) := by decide +kernel
theorem dX3_beginFoundLine_122 : decode cX3_beginFoundLine 122 = .ok (.iadd, 1) := by decide +kernel
theorem dX3_beginFoundLine_123 : decode cX3_beginFoundLine 123 = .ok (.putfield 67, 3) := by decide +kernel
theorem dX3_beginFoundLine_126 : decode cX3_beginFoundLine 126 = .ok (.aload_n 0, 1) := by decide +kernel
theorem dX3_beginFoundLine_127 : decode cX3_beginFoundLine 127 = .ok (.getfield 67, 3) := by decide +kernel
theorem dX3_beginFoundLine_130 : decode cX3_beginFoundLine 130 = .ok (.aload_n 0, 1) := by decide +kernel
theorem dX3_beginFoundLine_131 : decode cX3_beginFoundLine 131 = .ok (.getfield 76, 3) := by decide +kernel
theorem dX3_beginFoundLine_134 : decode cX3_beginFoundLine 134 = .ok (.if_icmp .le 11, 3) := by decide +kernel
theorem dX3_beginFoundLine_137 : decode cX3_beginFoundLine 137 = .ok (.aload_n 0, 1) := by decide +kernel
theorem dX3_beginFoundLine_138 : decode cX3_beginFoundLine 138 = .ok (.aload_n 0, 1) := by decide +kernel
theorem dX3_beginFoundLine_139 : decode cX3_beginFoundLine 139 = .ok (.getfield 67, 3) := by decide +kernel
theorem dX3_beginFoundLine_142 : decode cX3_beginFoundLine 142 = .ok (.putfield 76, 3) := by decide +kernel
theorem dX3_beginFoundLine_145 : decode cX3_beginFoundLine 145 = .ok (.iload_n 1, 1) := by decide +kernel
theorem dX3_beginFoundLine_146 : decode cX3_beginFoundLine 146 = .ok (.ireturn, 1) := by decide +kernel
theorem dX3_nestTakes_0 : decode cX3_nestTakes 0 = .ok (.aload_n 0, 1) := by decide +kernel
theorem dX3_nestTakes_1 : decode cX3_nestTakes 1 = .ok (.getfield 67, 3) := by decide +kernel
theorem dX3_nestTakes_4 : decode cX3_nestTakes 4 = .ok (.ifCond .ne 5, 3) := by decide +kernel
theorem dX3_nestTakes_7 : decode cX3_nestTakes 7 = .ok (.iconst 1, 1) := by decide +kernel
theorem dX3_nestTakes_8 : decode cX3_nestTakes 8 = .ok (.ireturn, 1) := by decide +kernel
theorem dX3_nestTakes_9 : decode cX3_nestTakes 9 = .ok (.aload_n 0, 1) := by decide +kernel
theorem dX3_nestTakes_10 : decode cX3_nestTakes 10 = .ok (.getfield 67, 3) := by decide +kernel
theorem dX3_nestTakes_13 : decode cX3_nestTakes 13 = .ok (.aload_n 0, 1) := by decide +kernel
theorem dX3_nestTakes_14 : decode cX3_nestTakes 14 = .ok (.getfield 18, 3) := by decide +kernel
theorem dX3_nestTakes_17 : decode cX3_nestTakes 17 = .ok (.iconst 3, 1) := by decide +kernel
theorem dX3_nestTakes_18 : decode cX3_nestTakes 18 = .ok (.iaload, 1) := by decide +kernel
theorem dX3_nestTakes_19 : decode cX3_nestTakes 19 = .ok (.if_icmp .ge 16, 3) := by decide +kernel
theorem dX3_nestTakes_22 : decode cX3_nestTakes 22 = .ok (.aload_n 0, 1) := by decide +kernel
theorem dX3_nestTakes_23 : decode cX3_nestTakes 23 = .ok (.getfield 67, 3) := by decide +kernel
theorem dX3_nestTakes_26 : decode cX3_nestTakes 26 = .ok (.bipush 8, 2) := by decide +kernel
theorem dX3_nestTakes_28 : decode cX3_nestTakes 28 = .ok (.if_icmp .ge 7, 3) := by decide +kernel
theorem dX3_nestTakes_31 : decode cX3_nestTakes 31 = .ok (.iconst 1, 1) := by decide +kernel
theorem dX3_nestTakes_32 : decode cX3_nestTakes 32 = .ok (.goto 4, 3) := by decide +kernel
theorem dX3_nestTakes_35 : decode cX3_nestTakes 35 = .ok (.iconst 0, 1) := by decide +kernel
theorem dX3_nestTakes_36 : decode cX3_nestTakes 36 = .ok (.istore_n 2, 1) := by decide +kernel
theorem dX3_nestTakes_37 : decode cX3_nestTakes 37 = .ok (.iload_n 2, 1) := by decide +kernel
theorem dX3_nestTakes_38 : decode cX3_nestTakes 38 = .ok (.ifCond .eq 32, 3) := by decide +kernel
theorem dX3_nestTakes_41 : decode cX3_nestTakes 41 = .ok (.iload_n 1, 1) := by decide +kernel
theorem dX3_nestTakes_42 : decode cX3_nestTakes 42 = .ok (.aload_n 0, 1) := by decide +kernel
theorem dX3_nestTakes_43 : decode cX3_nestTakes 43 = .ok (.getfield 39, 3) := by decide +kernel
theorem dX3_nestTakes_46 : decode cX3_nestTakes 46 = .ok (.aload_n 0, 1) := by decide +kernel
theorem dX3_nestTakes_47 : decode cX3_nestTakes 47 = .ok (.getfield 67, 3) := by decide +kernel
theorem dX3_nestTakes_50 : decode cX3_nestTakes 50 = .ok (.iconst 1, 1) := by decide +kernel
theorem dX3_nestTakes_51 : decode cX3_nestTakes 51 = .ok (.isub, 1) := by decide +kernel
theorem dX3_nestTakes_52 : decode cX3_nestTakes 52 = .ok (.aaload, 1) := by decide +kernel
theorem dX3_nestTakes_53 : decode cX3_nestTakes 53 = .ok (.getfield 174, 3) := by decide +kernel
theorem dX3_nestTakes_56 : decode cX3_nestTakes 56 = .ok (.aload_n 0, 1) := by decide +kernel
theorem dX3_nestTakes_57 : decode cX3_nestTakes 57 = .ok (.getfield 18, 3) := by decide +kernel
theorem dX3_nestTakes_60 : decode cX3_nestTakes 60 = .ok (.iconst 2, 1) := by decide +kernel
theorem dX3_nestTakes_61 : decode cX3_nestTakes 61 = .ok (.iaload, 1) := by decide +kernel
theorem dX3_nestTakes_62 : decode cX3_nestTakes 62 = .ok (.iadd, 1) := by decide +kernel
theorem dX3_nestTakes_63 : decode cX3_nestTakes 63 = .ok (.if_icmp .lt 7, 3) := by decide +kernel
theorem dX3_nestTakes_66 : decode cX3_nestTakes 66 = .ok (.iconst 1, 1) := by decide +kernel
theorem dX3_nestTakes_67 : decode cX3_nestTakes 67 = .ok (.goto 4, 3) := by decide +kernel
theorem dX3_nestTakes_70 : decode cX3_nestTakes 70 = .ok (.iconst 0, 1) := by decide +kernel
theorem dX3_nestTakes_71 : decode cX3_nestTakes 71 = .ok (.ireturn, 1) := by decide +kernel
theorem dX3_serveTop_0 : decode cX3_serveTop 0 = .ok (.aload_n 0, 1) := by decide +kernel
theorem dX3_serveTop_1 : decode cX3_serveTop 1 = .ok (.getfield 67, 3) := by decide +kernel
theorem dX3_serveTop_4 : decode cX3_serveTop 4 = .ok (.ifCond .ne 4, 3) := by decide +kernel
theorem dX3_serveTop_7 : decode cX3_serveTop 7 = .ok (.return_, 1) := by decide +kernel
theorem dX3_serveTop_8 : decode cX3_serveTop 8 = .ok (.aload_n 0, 1) := by decide +kernel
theorem dX3_serveTop_9 : decode cX3_serveTop 9 = .ok (.getfield 39, 3) := by decide +kernel
theorem dX3_serveTop_12 : decode cX3_serveTop 12 = .ok (.aload_n 0, 1) := by decide +kernel
theorem dX3_serveTop_13 : decode cX3_serveTop 13 = .ok (.getfield 67, 3) := by decide +kernel
theorem dX3_serveTop_16 : decode cX3_serveTop 16 = .ok (.iconst 1, 1) := by decide +kernel
theorem dX3_serveTop_17 : decode cX3_serveTop 17 = .ok (.isub, 1) := by decide +kernel
theorem dX3_serveTop_18 : decode cX3_serveTop 18 = .ok (.aaload, 1) := by decide +kernel
theorem dX3_serveTop_19 : decode cX3_serveTop 19 = .ok (.astore_n 1, 1) := by decide +kernel
theorem dX3_serveTop_20 : decode cX3_serveTop 20 = .ok (.aload_n 0, 1) := by decide +kernel
theorem dX3_serveTop_21 : decode cX3_serveTop 21 = .ok (.dup, 1) := by decide +kernel
theorem dX3_serveTop_22 : decode cX3_serveTop 22 = .ok (.getfield 73, 3) := by decide +kernel
theorem dX3_serveTop_25 : decode cX3_serveTop 25 = .ok (.iconst 1, 1) := by decide +kernel
theorem dX3_serveTop_26 : decode cX3_serveTop 26 = .ok (.iadd, 1) := by decide +kernel
theorem dX3_serveTop_27 : decode cX3_serveTop 27 = .ok (.putfield 73, 3) := by decide +kernel
theorem dX3_serveTop_30 : decode cX3_serveTop 30 = .ok (.aload_n 1, 1) := by decide +kernel
theorem dX3_serveTop_31 : decode cX3_serveTop 31 = .ok (.dup, 1) := by decide +kernel
theorem dX3_serveTop_32 : decode cX3_serveTop 32 = .ok (.getfield 179, 3) := by decide +kernel
theorem dX3_serveTop_35 : decode cX3_serveTop 35 = .ok (.iconst 1, 1) := by decide +kernel
theorem dX3_serveTop_36 : decode cX3_serveTop 36 = .ok (.isub, 1) := by decide +kernel
theorem dX3_serveTop_37 : decode cX3_serveTop 37 = .ok (.putfield 179, 3) := by decide +kernel
theorem dX3_serveTop_40 : decode cX3_serveTop 40 = .ok (.aload_n 1, 1) := by decide +kernel
theorem dX3_serveTop_41 : decode cX3_serveTop 41 = .ok (.getfield 179, 3) := by decide +kernel
theorem dX3_serveTop_44 : decode cX3_serveTop 44 = .ok (.ifCond .gt 25, 3) := by decide +kernel
theorem dX3_serveTop_47 : decode cX3_serveTop 47 = .ok (.aload_n 0, 1) := by decide +kernel
theorem dX3_serveTop_48 : decode cX3_serveTop 48 = .ok (.dup, 1) := by decide +kernel
theorem dX3_serveTop_49 : decode cX3_serveTop 49 = .ok (.getfield 67, 3) := by decide +kernel
theorem dX3_serveTop_52 : decode cX3_serveTop 52 = .ok (.iconst 1, 1) := by decide +kernel
theorem dX3_serveTop_53 : decode cX3_serveTop 53 = .ok (.isub, 1) := by decide +kernel
theorem dX3_serveTop_54 : decode cX3_serveTop 54 = .ok (.putfield 67, 3) := by decide +kernel
theorem dX3_serveTop_57 : decode cX3_serveTop 57 = .ok (.aload_n 0, 1) := by decide +kernel
theorem dX3_serveTop_58 : decode cX3_serveTop 58 = .ok (.getfield 25, 3) := by decide +kernel
theorem dX3_serveTop_61 : decode cX3_serveTop 61 = .ok (.aload_n 1, 1) := by decide +kernel
theorem dX3_serveTop_62 : decode cX3_serveTop 62 = .ok (.getfield 173, 3) := by decide +kernel
theorem dX3_serveTop_65 : decode cX3_serveTop 65 = .ok (.aaload, 1) := by decide +kernel
theorem dX3_serveTop_66 : decode cX3_serveTop 66 = .ok (.invokevirtual 189, 3) := by decide +kernel
theorem dX3_serveTop_69 : decode cX3_serveTop 69 = .ok (.return_, 1) := by decide +kernel
theorem dX3_growWaits_0 : decode cX3_growWaits 0 = .ok (.iconst 0, 1) := by decide +kernel
theorem dX3_growWaits_1 : decode cX3_growWaits 1 = .ok (.istore_n 1, 1) := by decide +kernel
theorem dX3_growWaits_2 : decode cX3_growWaits 2 = .ok (.iload_n 1, 1) := by decide +kernel
theorem dX3_growWaits_3 : decode cX3_growWaits 3 = .ok (.aload_n 0, 1) := by decide +kernel
theorem dX3_growWaits_4 : decode cX3_growWaits 4 = .ok (.getfield 54, 3) := by decide +kernel
theorem dX3_growWaits_7 : decode cX3_growWaits 7 = .ok (.if_icmp .ge 36, 3) := by decide +kernel
theorem dX3_growWaits_10 : decode cX3_growWaits 10 = .ok (.aload_n 0, 1) := by decide +kernel
theorem dX3_growWaits_11 : decode cX3_growWaits 11 = .ok (.getfield 25, 3) := by decide +kernel
theorem dX3_growWaits_14 : decode cX3_growWaits 14 = .ok (.iload_n 1, 1) := by decide +kernel
theorem dX3_growWaits_15 : decode cX3_growWaits 15 = .ok (.aaload, 1) := by decide +kernel
theorem dX3_growWaits_16 : decode cX3_growWaits 16 = .ok (.getfield 192, 3) := by decide +kernel
theorem dX3_growWaits_19 : decode cX3_growWaits 19 = .ok (.ifCond .eq 18, 3) := by decide +kernel
theorem dX3_growWaits_22 : decode cX3_growWaits 22 = .ok (.aload_n 0, 1) := by decide +kernel
theorem dX3_growWaits_23 : decode cX3_growWaits 23 = .ok (.getfield 25, 3) := by decide +kernel
theorem dX3_growWaits_26 : decode cX3_growWaits 26 = .ok (.iload_n 1, 1) := by decide +kernel
theorem dX3_growWaits_27 : decode cX3_growWaits 27 = .ok (.aaload, 1) := by decide +kernel
theorem dX3_growWaits_28 : decode cX3_growWaits 28 = .ok (.dup, 1) := by decide +kernel
theorem dX3_growWaits_29 : decode cX3_growWaits 29 = .ok (.getfield 164, 3) := by decide +kernel
theorem dX3_growWaits_32 : decode cX3_growWaits 32 = .ok (.iconst 1, 1) := by decide +kernel
theorem dX3_growWaits_33 : decode cX3_growWaits 33 = .ok (.iadd, 1) := by decide +kernel
theorem dX3_growWaits_34 : decode cX3_growWaits 34 = .ok (.putfield 164, 3) := by decide +kernel
theorem dX3_growWaits_37 : decode cX3_growWaits 37 = .ok (.iinc 1 1, 3) := by decide +kernel
theorem dX3_growWaits_40 : decode cX3_growWaits 40 = .ok (.goto (-38), 3) := by decide +kernel
theorem dX3_growWaits_43 : decode cX3_growWaits 43 = .ok (.return_, 1) := by decide +kernel
theorem dX3_numberOfLine_0 : decode cX3_numberOfLine 0 = .ok (.aload_n 0, 1) := by decide +kernel
theorem dX3_numberOfLine_1 : decode cX3_numberOfLine 1 = .ok (.iload_n 1, 1) := by decide +kernel
theorem dX3_numberOfLine_2 : decode cX3_numberOfLine 2 = .ok (.invokevirtual 103, 3) := by decide +kernel
theorem dX3_numberOfLine_5 : decode cX3_numberOfLine 5 = .ok (.ifCond .ne 5, 3) := by decide +kernel
theorem dX3_numberOfLine_8 : decode cX3_numberOfLine 8 = .ok (.iconst (-1), 1) := by decide +kernel
theorem dX3_numberOfLine_9 : decode cX3_numberOfLine 9 = .ok (.ireturn, 1) := by decide +kernel
theorem dX3_numberOfLine_10 : decode cX3_numberOfLine 10 = .ok (.aload_n 0, 1) := by decide +kernel
theorem dX3_numberOfLine_11 : decode cX3_numberOfLine 11 = .ok (.getfield 25, 3) := by decide +kernel
theorem dX3_numberOfLine_14 : decode cX3_numberOfLine 14 = .ok (.iload_n 1, 1) := by decide +kernel
theorem dX3_numberOfLine_15 : decode cX3_numberOfLine 15 = .ok (.aaload, 1) := by decide +kernel
theorem dX3_numberOfLine_16 : decode cX3_numberOfLine 16 = .ok (.iload_n 2, 1) := by decide +kernel
theorem dX3_numberOfLine_17 : decode cX3_numberOfLine 17 = .ok (.aload_n 0, 1) := by decide +kernel
theorem dX3_numberOfLine_18 : decode cX3_numberOfLine 18 = .ok (.getfield 18, 3) := by decide +kernel
theorem dX3_numberOfLine_21 : decode cX3_numberOfLine 21 = .ok (.iconst 0, 1) := by decide +kernel
theorem dX3_numberOfLine_22 : decode cX3_numberOfLine 22 = .ok (.iaload, 1) := by decide +kernel
theorem dX3_numberOfLine_23 : decode cX3_numberOfLine 23 = .ok (.aload_n 0, 1) := by decide +kernel
theorem dX3_numberOfLine_24 : decode cX3_numberOfLine 24 = .ok (.getfield 18, 3) := by decide +kernel
theorem dX3_numberOfLine_27 : decode cX3_numberOfLine 27 = .ok (.iconst 1, 1) := by decide +kernel
theorem dX3_numberOfLine_28 : decode cX3_numberOfLine 28 = .ok (.iaload, 1) := by decide +kernel
theorem dX3_numberOfLine_29 : decode cX3_numberOfLine 29 = .ok (.invokevirtual 195, 3) := by decide +kernel
theorem dX3_numberOfLine_32 : decode cX3_numberOfLine 32 = .ok (.ireturn, 1) := by decide +kernel
theorem dX3_numberOfPlace_0 : decode cX3_numberOfPlace 0 = .ok (.iload_n 1, 1) := by decide +kernel
theorem dX3_numberOfPlace_1 : decode cX3_numberOfPlace 1 = .ok (.iconst 0, 1) := by decide +kernel
theorem dX3_numberOfPlace_2 : decode cX3_numberOfPlace 2 = .ok (.aload_n 0, 1) := by decide +kernel
theorem dX3_numberOfPlace_3 : decode cX3_numberOfPlace 3 = .ok (.getfield 67, 3) := by decide +kernel
theorem dX3_numberOfPlace_6 : decode cX3_numberOfPlace 6 = .ok (.iconst 1, 1) := by decide +kernel
theorem dX3_numberOfPlace_7 : decode cX3_numberOfPlace 7 = .ok (.isub, 1) := by decide +kernel
theorem dX3_numberOfPlace_8 : decode cX3_numberOfPlace 8 = .ok (.invokestatic 82, 3) := by decide +kernel
theorem dX3_numberOfPlace_11 : decode cX3_numberOfPlace 11 = .ok (.ifCond .eq 16, 3) := by decide +kernel
theorem dX3_numberOfPlace_14 : decode cX3_numberOfPlace 14 = .ok (.aload_n 0, 1) := by decide +kernel
theorem dX3_numberOfPlace_15 : decode cX3_numberOfPlace 15 = .ok (.getfield 39, 3) := by decide +kernel
theorem dX3_numberOfPlace_18 : decode cX3_numberOfPlace 18 = .ok (.iload_n 1, 1) := by decide +kernel
theorem dX3_numberOfPlace_19 : decode cX3_numberOfPlace 19 = .ok (.aaload, 1) := by decide +kernel
theorem dX3_numberOfPlace_20 : decode cX3_numberOfPlace 20 = .ok (.iload_n 2, 1) := by decide +kernel
theorem dX3_numberOfPlace_21 : decode cX3_numberOfPlace 21 = .ok (.invokevirtual 199, 3) := by decide +kernel
theorem dX3_numberOfPlace_24 : decode cX3_numberOfPlace 24 = .ok (.goto 4, 3) := by decide +kernel
theorem dX3_numberOfPlace_27 : decode cX3_numberOfPlace 27 = .ok (.iconst (-1), 1) := by decide +kernel
theorem dX3_numberOfPlace_28 : decode cX3_numberOfPlace 28 = .ok (.ireturn, 1) := by decide +kernel
theorem dX3_numberOfTimer_0 : decode cX3_numberOfTimer 0 = .ok (.aload_n 0, 1) := by decide +kernel
theorem dX3_numberOfTimer_1 : decode cX3_numberOfTimer 1 = .ok (.iload_n 1, 1) := by decide +kernel
theorem dX3_numberOfTimer_2 : decode cX3_numberOfTimer 2 = .ok (.invokevirtual 123, 3) := by decide +kernel
theorem dX3_numberOfTimer_5 : decode cX3_numberOfTimer 5 = .ok (.ifCond .eq 16, 3) := by decide +kernel
theorem dX3_numberOfTimer_8 : decode cX3_numberOfTimer 8 = .ok (.aload_n 0, 1) := by decide +kernel
theorem dX3_numberOfTimer_9 : decode cX3_numberOfTimer 9 = .ok (.getfield 32, 3) := by decide +kernel
theorem dX3_numberOfTimer_12 : decode cX3_numberOfTimer 12 = .ok (.iload_n 1, 1) := by decide +kernel
theorem dX3_numberOfTimer_13 : decode cX3_numberOfTimer 13 = .ok (.aaload, 1) := by decide +kernel
theorem dX3_numberOfTimer_14 : decode cX3_numberOfTimer 14 = .ok (.iload_n 2, 1) := by decide +kernel
theorem dX3_numberOfTimer_15 : decode cX3_numberOfTimer 15 = .ok (.invokevirtual 201, 3) := by decide +kernel
theorem dX3_numberOfTimer_18 : decode cX3_numberOfTimer 18 = .ok (.goto 4, 3) := by decide +kernel
theorem dX3_numberOfTimer_21 : decode cX3_numberOfTimer 21 = .ok (.iconst (-1), 1) := by decide +kernel
theorem dX3_numberOfTimer_22 : decode cX3_numberOfTimer 22 = .ok (.ireturn, 1) := by decide +kernel
theorem dX3_numberOfAll_0 : decode cX3_numberOfAll 0 = .ok (.iload_n 1, 1) := by decide +kernel
theorem dX3_numberOfAll_1 : decode cX3_numberOfAll 1 = .ok (.bipush 12, 2) := by decide +kernel
theorem dX3_numberOfAll_3 : decode cX3_numberOfAll 3 = .ok (.isub, 1) := by decide +kernel
theorem dX3_numberOfAll_4 : decode cX3_numberOfAll 4 = .ok (.istore_n 2, 1) := by decide +kernel
theorem dX3_numberOfAll_5 : decode cX3_numberOfAll 5 = .ok (.iload_n 1, 1) := by decide +kernel
theorem dX3_numberOfAll_6 : decode cX3_numberOfAll 6 = .ok (.bipush 12, 2) := by decide +kernel
theorem dX3_numberOfAll_8 : decode cX3_numberOfAll 8 = .ok (.if_icmp .lt 19, 3) := by decide +kernel
theorem dX3_numberOfAll_11 : decode cX3_numberOfAll 11 = .ok (.iload_n 2, 1) := by decide +kernel
theorem dX3_numberOfAll_12 : decode cX3_numberOfAll 12 = .ok (.aload_n 0, 1) := by decide +kernel
theorem dX3_numberOfAll_13 : decode cX3_numberOfAll 13 = .ok (.getfield 18, 3) := by decide +kernel
theorem dX3_numberOfAll_16 : decode cX3_numberOfAll 16 = .ok (.arraylength, 1) := by decide +kernel
theorem dX3_numberOfAll_17 : decode cX3_numberOfAll 17 = .ok (.if_icmp .ge 10, 3) := by decide +kernel
theorem dX3_numberOfAll_20 : decode cX3_numberOfAll 20 = .ok (.aload_n 0, 1) := by decide +kernel
theorem dX3_numberOfAll_21 : decode cX3_numberOfAll 21 = .ok (.getfield 18, 3) := by decide +kernel
theorem dX3_numberOfAll_24 : decode cX3_numberOfAll 24 = .ok (.iload_n 2, 1) := by decide +kernel
theorem dX3_numberOfAll_25 : decode cX3_numberOfAll 25 = .ok (.iaload, 1) := by decide +kernel
theorem dX3_numberOfAll_26 : decode cX3_numberOfAll 26 = .ok (.ireturn, 1) := by decide +kernel
theorem dX3_numberOfAll_27 : decode cX3_numberOfAll 27 = .ok (.iload_n 1, 1) := by decide +kernel
theorem dX3_numberOfAll_28 : decode cX3_numberOfAll 28 = .ok (.tableswitch 106 0 9 #[56, 61, 66, 71, 76, 81, 86, 91, 96, 101], 56) := by decide +kernel
theorem dX3_numberOfAll_84 : decode cX3_numberOfAll 84 = .ok (.aload_n 0, 1) := by decide +kernel
theorem dX3_numberOfAll_85 : decode cX3_numberOfAll 85 = .ok (.getfield 44, 3) := by decide +kernel
theorem dX3_numberOfAll_88 : decode cX3_numberOfAll 88 = .ok (.ireturn, 1) := by decide +kernel
theorem dX3_numberOfAll_89 : decode cX3_numberOfAll 89 = .ok (.aload_n 0, 1) := by decide +kernel
theorem dX3_numberOfAll_90 : decode cX3_numberOfAll 90 = .ok (.getfield 54, 3) := by decide +kernel
theorem dX3_numberOfAll_93 : decode cX3_numberOfAll 93 = .ok (.ireturn, 1) := by decide +kernel
theorem dX3_numberOfAll_94 : decode cX3_numberOfAll 94 = .ok (.aload_n 0, 1) := by decide +kernel
theorem dX3_numberOfAll_95 : decode cX3_numberOfAll 95 = .ok (.getfield 61, 3) := by decide +kernel
theorem dX3_numberOfAll_98 : decode cX3_numberOfAll 98 = .ok (.ireturn, 1) := by decide +kernel
theorem dX3_numberOfAll_99 : decode cX3_numberOfAll 99 = .ok (.aload_n 0, 1) := by decide +kernel
theorem dX3_numberOfAll_100 : decode cX3_numberOfAll 100 = .ok (.getfield 67, 3) := by decide +kernel
theorem dX3_numberOfAll_103 : decode cX3_numberOfAll 103 = .ok (.ireturn, 1) := by decide +kernel
theorem dX3_numberOfAll_104 : decode cX3_numberOfAll 104 = .ok (.aload_n 0, 1) := by decide +kernel
theorem dX3_numberOfAll_105 : decode cX3_numberOfAll 105 = .ok (.invokevirtual 202, 3) := by decide +kernel
theorem dX3_numberOfAll_108 : decode cX3_numberOfAll 108 = .ok (.ireturn, 1) := by decide +kernel
theorem dX3_numberOfAll_109 : decode cX3_numberOfAll 109 = .ok (.aload_n 0, 1) := by decide +kernel
theorem dX3_numberOfAll_110 : decode cX3_numberOfAll 110 = .ok (.invokevirtual 167, 3) := by decide +kernel
theorem dX3_numberOfAll_113 : decode cX3_numberOfAll 113 = .ok (.ireturn, 1) := by decide +kernel
theorem dX3_numberOfAll_114 : decode cX3_numberOfAll 114 = .ok (.aload_n 0, 1) := by decide +kernel
theorem dX3_numberOfAll_115 : decode cX3_numberOfAll 115 = .ok (.getfield 73, 3) := by decide +kernel
theorem dX3_numberOfAll_118 : decode cX3_numberOfAll 118 = .ok (.ireturn, 1) := by decide +kernel
theorem dX3_numberOfAll_119 : decode cX3_numberOfAll 119 = .ok (.aload_n 0, 1) := by decide +kernel
theorem dX3_numberOfAll_120 : decode cX3_numberOfAll 120 = .ok (.getfield 76, 3) := by decide +kernel
theorem dX3_numberOfAll_123 : decode cX3_numberOfAll 123 = .ok (.ireturn, 1) := by decide +kernel
theorem dX3_numberOfAll_124 : decode cX3_numberOfAll 124 = .ok (.aload_n 0, 1) := by decide +kernel
theorem dX3_numberOfAll_125 : decode cX3_numberOfAll 125 = .ok (.invokevirtual 205, 3) := by decide +kernel
theorem dX3_numberOfAll_128 : decode cX3_numberOfAll 128 = .ok (.ireturn, 1) := by decide +kernel
theorem dX3_numberOfAll_129 : decode cX3_numberOfAll 129 = .ok (.aload_n 0, 1) := by decide +kernel
theorem dX3_numberOfAll_130 : decode cX3_numberOfAll 130 = .ok (.getfield 79, 3) := by decide +kernel
theorem dX3_numberOfAll_133 : decode cX3_numberOfAll 133 = .ok (.ireturn, 1) := by decide +kernel
theorem dX3_numberOfAll_134 : decode cX3_numberOfAll 134 = .ok (.bipush (-2), 2) := by decide +kernel
theorem dX3_numberOfAll_136 : decode cX3_numberOfAll 136 = .ok (.ireturn, 1) := by decide +kernel
theorem dX3_waitingLines_0 : decode cX3_waitingLines 0 = .ok (.iconst 0, 1) := by decide +kernel
theorem dX3_waitingLines_1 : decode cX3_waitingLines 1 = .ok (.istore_n 1, 1) := by decide +kernel
theorem dX3_waitingLines_2 : decode cX3_waitingLines 2 = .ok (.iconst 0, 1) := by decide +kernel
theorem dX3_waitingLines_3 : decode cX3_waitingLines 3 = .ok (.istore_n 2, 1) := by decide +kernel
theorem dX3_waitingLines_4 : decode cX3_waitingLines 4 = .ok (.iload_n 2, 1) := by decide +kernel
theorem dX3_waitingLines_5 : decode cX3_waitingLines 5 = .ok (.aload_n 0, 1) := by decide +kernel
theorem dX3_waitingLines_6 : decode cX3_waitingLines 6 = .ok (.getfield 54, 3) := by decide +kernel
theorem dX3_waitingLines_9 : decode cX3_waitingLines 9 = .ok (.if_icmp .ge 27, 3) := by decide +kernel
theorem dX3_waitingLines_12 : decode cX3_waitingLines 12 = .ok (.aload_n 0, 1) := by decide +kernel
theorem dX3_waitingLines_13 : decode cX3_waitingLines 13 = .ok (.getfield 25, 3) := by decide +kernel
theorem dX3_waitingLines_16 : decode cX3_waitingLines 16 = .ok (.iload_n 2, 1) := by decide +kernel
theorem dX3_waitingLines_17 : decode cX3_waitingLines 17 = .ok (.aaload, 1) := by decide +kernel
theorem dX3_waitingLines_18 : decode cX3_waitingLines 18 = .ok (.getfield 192, 3) := by decide +kernel
theorem dX3_waitingLines_21 : decode cX3_waitingLines 21 = .ok (.ifCond .eq 9, 3) := by decide +kernel
theorem dX3_waitingLines_24 : decode cX3_waitingLines 24 = .ok (.iload_n 1, 1) := by decide +kernel
theorem dX3_waitingLines_25 : decode cX3_waitingLines 25 = .ok (.iconst 1, 1) := by decide +kernel
theorem dX3_waitingLines_26 : decode cX3_waitingLines 26 = .ok (.iload_n 2, 1) := by decide +kernel
theorem dX3_waitingLines_27 : decode cX3_waitingLines 27 = .ok (.ishl, 1) := by decide +kernel
theorem dX3_waitingLines_28 : decode cX3_waitingLines 28 = .ok (.ior, 1) := by decide +kernel
theorem dX3_waitingLines_29 : decode cX3_waitingLines 29 = .ok (.istore_n 1, 1) := by decide +kernel
theorem dX3_waitingLines_30 : decode cX3_waitingLines 30 = .ok (.iinc 2 1, 3) := by decide +kernel
theorem dX3_waitingLines_33 : decode cX3_waitingLines 33 = .ok (.goto (-29), 3) := by decide +kernel
theorem dX3_waitingLines_36 : decode cX3_waitingLines 36 = .ok (.iload_n 1, 1) := by decide +kernel
theorem dX3_waitingLines_37 : decode cX3_waitingLines 37 = .ok (.ireturn, 1) := by decide +kernel
theorem dX3_missesOfAll_0 : decode cX3_missesOfAll 0 = .ok (.iconst 0, 1) := by decide +kernel
theorem dX3_missesOfAll_1 : decode cX3_missesOfAll 1 = .ok (.istore_n 1, 1) := by decide +kernel
theorem dX3_missesOfAll_2 : decode cX3_missesOfAll 2 = .ok (.iconst 0, 1) := by decide +kernel
theorem dX3_missesOfAll_3 : decode cX3_missesOfAll 3 = .ok (.istore_n 2, 1) := by decide +kernel
theorem dX3_missesOfAll_4 : decode cX3_missesOfAll 4 = .ok (.iload_n 2, 1) := by decide +kernel
theorem dX3_missesOfAll_5 : decode cX3_missesOfAll 5 = .ok (.aload_n 0, 1) := by decide +kernel
theorem dX3_missesOfAll_6 : decode cX3_missesOfAll 6 = .ok (.getfield 54, 3) := by decide +kernel
theorem dX3_missesOfAll_9 : decode cX3_missesOfAll 9 = .ok (.if_icmp .ge 21, 3) := by decide +kernel
theorem dX3_missesOfAll_12 : decode cX3_missesOfAll 12 = .ok (.iload_n 1, 1) := by decide +kernel
theorem dX3_missesOfAll_13 : decode cX3_missesOfAll 13 = .ok (.aload_n 0, 1) := by decide +kernel
theorem dX3_missesOfAll_14 : decode cX3_missesOfAll 14 = .ok (.getfield 25, 3) := by decide +kernel
theorem dX3_missesOfAll_17 : decode cX3_missesOfAll 17 = .ok (.iload_n 2, 1) := by decide +kernel
theorem dX3_missesOfAll_18 : decode cX3_missesOfAll 18 = .ok (.aaload, 1) := by decide +kernel
theorem dX3_missesOfAll_19 : decode cX3_missesOfAll 19 = .ok (.getfield 208, 3) := by decide +kernel
theorem dX3_missesOfAll_22 : decode cX3_missesOfAll 22 = .ok (.iadd, 1) := by decide +kernel
theorem dX3_missesOfAll_23 : decode cX3_missesOfAll 23 = .ok (.istore_n 1, 1) := by decide +kernel
theorem dX3_missesOfAll_24 : decode cX3_missesOfAll 24 = .ok (.iinc 2 1, 3) := by decide +kernel
theorem dX3_missesOfAll_27 : decode cX3_missesOfAll 27 = .ok (.goto (-23), 3) := by decide +kernel
theorem dX3_missesOfAll_30 : decode cX3_missesOfAll 30 = .ok (.iload_n 1, 1) := by decide +kernel
theorem dX3_missesOfAll_31 : decode cX3_missesOfAll 31 = .ok (.ireturn, 1) := by decide +kernel
theorem dX3_costOf_0 : decode cX3_costOf 0 = .ok (.aload_n 0, 1) := by decide +kernel
theorem dX3_costOf_1 : decode cX3_costOf 1 = .ok (.getfield 25, 3) := by decide +kernel
theorem dX3_costOf_4 : decode cX3_costOf 4 = .ok (.iload_n 1, 1) := by decide +kernel
theorem dX3_costOf_5 : decode cX3_costOf 5 = .ok (.aaload, 1) := by decide +kernel
theorem dX3_costOf_6 : decode cX3_costOf 6 = .ok (.getfield 211, 3) := by decide +kernel
theorem dX3_costOf_9 : decode cX3_costOf 9 = .ok (.aload_n 0, 1) := by decide +kernel
theorem dX3_costOf_10 : decode cX3_costOf 10 = .ok (.getfield 18, 3) := by decide +kernel
theorem dX3_costOf_13 : decode cX3_costOf 13 = .ok (.iconst 4, 1) := by decide +kernel
theorem dX3_costOf_14 : decode cX3_costOf 14 = .ok (.iaload, 1) := by decide +kernel
theorem dX3_costOf_15 : decode cX3_costOf 15 = .ok (.iadd, 1) := by decide +kernel
theorem dX3_costOf_16 : decode cX3_costOf 16 = .ok (.ireturn, 1) := by decide +kernel
theorem dX4_init_0 : decode cX4_init 0 = .ok (.aload_n 0, 1) := by decide +kernel
theorem dX4_init_1 : decode cX4_init 1 = .ok (.invokespecial 3, 3) := by decide +kernel
theorem dX4_init_4 : decode cX4_init 4 = .ok (.return_, 1) := by decide +kernel
theorem dX4_copyFrom_0 : decode cX4_copyFrom 0 = .ok (.aload_n 0, 1) := by decide +kernel
theorem dX4_copyFrom_1 : decode cX4_copyFrom 1 = .ok (.aload_n 1, 1) := by decide +kernel
theorem dX4_copyFrom_2 : decode cX4_copyFrom 2 = .ok (.getfield 9, 3) := by decide +kernel
theorem dX4_copyFrom_5 : decode cX4_copyFrom 5 = .ok (.putfield 9, 3) := by decide +kernel
theorem dX4_copyFrom_8 : decode cX4_copyFrom 8 = .ok (.aload_n 0, 1) := by decide +kernel
theorem dX4_copyFrom_9 : decode cX4_copyFrom 9 = .ok (.aload_n 1, 1) := by decide +kernel
theorem dX4_copyFrom_10 : decode cX4_copyFrom 10 = .ok (.getfield 15, 3) := by decide +kernel
theorem dX4_copyFrom_13 : decode cX4_copyFrom 13 = .ok (.putfield 15, 3) := by decide +kernel
theorem dX4_copyFrom_16 : decode cX4_copyFrom 16 = .ok (.aload_n 0, 1) := by decide +kernel
theorem dX4_copyFrom_17 : decode cX4_copyFrom 17 = .ok (.aload_n 1, 1) := by decide +kernel
theorem dX4_copyFrom_18 : decode cX4_copyFrom 18 = .ok (.getfield 18, 3) := by decide +kernel
theorem dX4_copyFrom_21 : decode cX4_copyFrom 21 = .ok (.putfield 18, 3) := by decide +kernel
theorem dX4_copyFrom_24 : decode cX4_copyFrom 24 = .ok (.aload_n 0, 1) := by decide +kernel
theorem dX4_copyFrom_25 : decode cX4_copyFrom 25 = .ok (.aload_n 1, 1) := by decide +kernel
theorem dX4_copyFrom_26 : decode cX4_copyFrom 26 = .ok (.getfield 21, 3) := by decide +kernel
theorem dX4_copyFrom_29 : decode cX4_copyFrom 29 = .ok (.putfield 21, 3) := by decide +kernel
theorem dX4_copyFrom_32 : decode cX4_copyFrom 32 = .ok (.return_, 1) := by decide +kernel
theorem dX4_number_0 : decode cX4_number 0 = .ok (.iload_n 1, 1) := by decide +kernel
theorem dX4_number_1 : decode cX4_number 1 = .ok (.tableswitch 51 0 3 #[31, 36, 41, 46], 31) := by decide +kernel
theorem dX4_number_32 : decode cX4_number 32 = .ok (.aload_n 0, 1) := by decide +kernel
theorem dX4_number_33 : decode cX4_number 33 = .ok (.getfield 9, 3) := by decide +kernel
theorem dX4_number_36 : decode cX4_number 36 = .ok (.ireturn, 1) := by decide +kernel
theorem dX4_number_37 : decode cX4_number 37 = .ok (.aload_n 0, 1) := by decide +kernel
theorem dX4_number_38 : decode cX4_number 38 = .ok (.getfield 15, 3) := by decide +kernel
theorem dX4_number_41 : decode cX4_number 41 = .ok (.ireturn, 1) := by decide +kernel
theorem dX4_number_42 : decode cX4_number 42 = .ok (.aload_n 0, 1) := by decide +kernel
theorem dX4_number_43 : decode cX4_number 43 = .ok (.getfield 18, 3) := by decide +kernel
theorem dX4_number_46 : decode cX4_number 46 = .ok (.ireturn, 1) := by decide +kernel
theorem dX4_number_47 : decode cX4_number 47 = .ok (.aload_n 0, 1) := by decide +kernel
theorem dX4_number_48 : decode cX4_number 48 = .ok (.getfield 21, 3) := by decide +kernel
theorem dX4_number_51 : decode cX4_number 51 = .ok (.ireturn, 1) := by decide +kernel
theorem dX4_number_52 : decode cX4_number 52 = .ok (.bipush (-2), 2) := by decide +kernel
theorem dX4_number_54 : decode cX4_number 54 = .ok (.ireturn, 1) := by decide +kernel
theorem dX5_init_0 : decode cX5_init 0 = .ok (.aload_n 0, 1) := by decide +kernel
theorem dX5_init_1 : decode cX5_init 1 = .ok (.invokespecial 3, 3) := by decide +kernel
theorem dX5_init_4 : decode cX5_init 4 = .ok (.return_, 1) := by decide +kernel
theorem dX5_copyFrom_0 : decode cX5_copyFrom 0 = .ok (.aload_n 0, 1) := by decide +kernel
theorem dX5_copyFrom_1 : decode cX5_copyFrom 1 = .ok (.aload_n 1, 1) := by decide +kernel
theorem dX5_copyFrom_2 : decode cX5_copyFrom 2 = .ok (.getfield 9, 3) := by decide +kernel
theorem dX5_copyFrom_5 : decode cX5_copyFrom 5 = .ok (.putfield 9, 3) := by decide +kernel
theorem dX5_copyFrom_8 : decode cX5_copyFrom 8 = .ok (.aload_n 0, 1) := by decide +kernel
theorem dX5_copyFrom_9 : decode cX5_copyFrom 9 = .ok (.aload_n 1, 1) := by decide +kernel
theorem dX5_copyFrom_10 : decode cX5_copyFrom 10 = .ok (.getfield 15, 3) := by decide +kernel
theorem dX5_copyFrom_13 : decode cX5_copyFrom 13 = .ok (.putfield 15, 3) := by decide +kernel
theorem dX5_copyFrom_16 : decode cX5_copyFrom 16 = .ok (.aload_n 0, 1) := by decide +kernel
theorem dX5_copyFrom_17 : decode cX5_copyFrom 17 = .ok (.aload_n 1, 1) := by decide +kernel
theorem dX5_copyFrom_18 : decode cX5_copyFrom 18 = .ok (.getfield 18, 3) := by decide +kernel
theorem dX5_copyFrom_21 : decode cX5_copyFrom 21 = .ok (.putfield 18, 3) := by decide +kernel
theorem dX5_copyFrom_24 : decode cX5_copyFrom 24 = .ok (.return_, 1) := by decide +kernel
theorem dX5_number_0 : decode cX5_number 0 = .ok (.iload_n 1, 1) := by decide +kernel
theorem dX5_number_1 : decode cX5_number 1 = .ok (.tableswitch 42 0 2 #[27, 32, 37], 27) := by decide +kernel
theorem dX5_number_28 : decode cX5_number 28 = .ok (.aload_n 0, 1) := by decide +kernel
theorem dX5_number_29 : decode cX5_number 29 = .ok (.getfield 9, 3) := by decide +kernel
theorem dX5_number_32 : decode cX5_number 32 = .ok (.ireturn, 1) := by decide +kernel
theorem dX5_number_33 : decode cX5_number 33 = .ok (.aload_n 0, 1) := by decide +kernel
theorem dX5_number_34 : decode cX5_number 34 = .ok (.getfield 15, 3) := by decide +kernel
theorem dX5_number_37 : decode cX5_number 37 = .ok (.ireturn, 1) := by decide +kernel
theorem dX5_number_38 : decode cX5_number 38 = .ok (.aload_n 0, 1) := by decide +kernel
theorem dX5_number_39 : decode cX5_number 39 = .ok (.getfield 18, 3) := by decide +kernel
theorem dX5_number_42 : decode cX5_number 42 = .ok (.ireturn, 1) := by decide +kernel
theorem dX5_number_43 : decode cX5_number 43 = .ok (.bipush (-2), 2) := by decide +kernel
theorem dX5_number_45 : decode cX5_number 45 = .ok (.ireturn, 1) := by decide +kernel
theorem dX6_init_0 : decode cX6_init 0 = .ok (.aload_n 0, 1) := by decide +kernel
theorem dX6_init_1 : decode cX6_init 1 = .ok (.invokespecial 1, 3) := by decide +kernel
theorem dX6_init_4 : decode cX6_init 4 = .ok (.aload_n 0, 1) := by decide +kernel
theorem dX6_init_5 : decode cX6_init 5 = .ok (.new 7, 3) := by decide +kernel
theorem dX6_init_8 : decode cX6_init 8 = .ok (.dup, 1) := by decide +kernel
theorem dX6_init_9 : decode cX6_init 9 = .ok (.invokespecial 9, 3) := by decide +kernel
theorem dX6_init_12 : decode cX6_init 12 = .ok (.putfield 10, 3) := by decide +kernel
theorem dX6_init_15 : decode cX6_init 15 = .ok (.aload_n 0, 1) := by decide +kernel
theorem dX6_init_16 : decode cX6_init 16 = .ok (.new 7, 3) := by decide +kernel
theorem dX6_init_19 : decode cX6_init 19 = .ok (.dup, 1) := by decide +kernel
theorem dX6_init_20 : decode cX6_init 20 = .ok (.invokespecial 9, 3) := by decide +kernel
theorem dX6_init_23 : decode cX6_init 23 = .ok (.putfield 16, 3) := by decide +kernel
theorem dX6_init_26 : decode cX6_init 26 = .ok (.aload_n 0, 1) := by decide +kernel
theorem dX6_init_27 : decode cX6_init 27 = .ok (.iconst 2, 1) := by decide +kernel
theorem dX6_init_28 : decode cX6_init 28 = .ok (.anewarray 7, 3) := by decide +kernel
theorem dX6_init_31 : decode cX6_init 31 = .ok (.putfield 19, 3) := by decide +kernel
theorem dX6_init_34 : decode cX6_init 34 = .ok (.iconst 0, 1) := by decide +kernel
theorem dX6_init_35 : decode cX6_init 35 = .ok (.istore_n 1, 1) := by decide +kernel
theorem dX6_init_36 : decode cX6_init 36 = .ok (.iload_n 1, 1) := by decide +kernel
theorem dX6_init_37 : decode cX6_init 37 = .ok (.iconst 2, 1) := by decide +kernel
theorem dX6_init_38 : decode cX6_init 38 = .ok (.if_icmp .ge 22, 3) := by decide +kernel
theorem dX6_init_41 : decode cX6_init 41 = .ok (.aload_n 0, 1) := by decide +kernel
theorem dX6_init_42 : decode cX6_init 42 = .ok (.getfield 19, 3) := by decide +kernel
theorem dX6_init_45 : decode cX6_init 45 = .ok (.iload_n 1, 1) := by decide +kernel
theorem dX6_init_46 : decode cX6_init 46 = .ok (.new 7, 3) := by decide +kernel
theorem dX6_init_49 : decode cX6_init 49 = .ok (.dup, 1) := by decide +kernel
theorem dX6_init_50 : decode cX6_init 50 = .ok (.invokespecial 9, 3) := by decide +kernel
theorem dX6_init_53 : decode cX6_init 53 = .ok (.aastore, 1) := by decide +kernel
theorem dX6_init_54 : decode cX6_init 54 = .ok (.iinc 1 1, 3) := by decide +kernel
theorem dX6_init_57 : decode cX6_init 57 = .ok (.goto (-21), 3) := by decide +kernel
theorem dX6_init_60 : decode cX6_init 60 = .ok (.aload_n 0, 1) := by decide +kernel
theorem dX6_init_61 : decode cX6_init 61 = .ok (.iconst 2, 1) := by decide +kernel
theorem dX6_init_62 : decode cX6_init 62 = .ok (.newarray .boolean, 2) := by decide +kernel
theorem dX6_init_64 : decode cX6_init 64 = .ok (.putfield 23, 3) := by decide +kernel
theorem dX6_init_67 : decode cX6_init 67 = .ok (.aload_n 0, 1) := by decide +kernel
theorem dX6_init_68 : decode cX6_init 68 = .ok (.new 27, 3) := by decide +kernel
theorem dX6_init_71 : decode cX6_init 71 = .ok (.dup, 1) := by decide +kernel
theorem dX6_init_72 : decode cX6_init 72 = .ok (.invokespecial 29, 3) := by decide +kernel
theorem dX6_init_75 : decode cX6_init 75 = .ok (.putfield 30, 3) := by decide +kernel
theorem dX6_init_78 : decode cX6_init 78 = .ok (.aload_n 0, 1) := by decide +kernel
theorem dX6_init_79 : decode cX6_init 79 = .ok (.new 34, 3) := by decide +kernel
theorem dX6_init_82 : decode cX6_init 82 = .ok (.dup, 1) := by decide +kernel
theorem dX6_init_83 : decode cX6_init 83 = .ok (.invokespecial 36, 3) := by decide +kernel
theorem dX6_init_86 : decode cX6_init 86 = .ok (.putfield 37, 3) := by decide +kernel
theorem dX6_init_89 : decode cX6_init 89 = .ok (.return_, 1) := by decide +kernel
theorem dX6_set_0 : decode cX6_set 0 = .ok (.aload_n 0, 1) := by decide +kernel
theorem dX6_set_1 : decode cX6_set 1 = .ok (.getfield 30, 3) := by decide +kernel
theorem dX6_set_4 : decode cX6_set 4 = .ok (.aload_n 0, 1) := by decide +kernel
theorem dX6_set_5 : decode cX6_set 5 = .ok (.getfield 10, 3) := by decide +kernel
theorem dX6_set_8 : decode cX6_set 8 = .ok (.invokevirtual 41, 3) := by decide +kernel
theorem dX6_set_11 : decode cX6_set 11 = .ok (.aload_n 0, 1) := by decide +kernel
theorem dX6_set_12 : decode cX6_set 12 = .ok (.getfield 30, 3) := by decide +kernel
theorem dX6_set_15 : decode cX6_set 15 = .ok (.aload_n 0, 1) := by decide +kernel
theorem dX6_set_16 : decode cX6_set 16 = .ok (.getfield 10, 3) := by decide +kernel
theorem dX6_set_19 : decode cX6_set 19 = .ok (.iload_n 1, 1) := by decide +kernel
theorem dX6_set_20 : decode cX6_set 20 = .ok (.iload_n 2, 1) := by decide +kernel
theorem dX6_set_21 : decode cX6_set 21 = .ok (.invokevirtual 45, 3) := by decide +kernel
theorem dX6_set_24 : decode cX6_set 24 = .ok (.invokevirtual 49, 3) := by decide +kernel
theorem dX6_set_27 : decode cX6_set 27 = .ok (.ireturn, 1) := by decide +kernel
theorem dX6_line_0 : decode cX6_line 0 = .ok (.aload_n 0, 1) := by decide +kernel
theorem dX6_line_1 : decode cX6_line 1 = .ok (.getfield 30, 3) := by decide +kernel
theorem dX6_line_4 : decode cX6_line 4 = .ok (.aload_n 0, 1) := by decide +kernel
theorem dX6_line_5 : decode cX6_line 5 = .ok (.getfield 10, 3) := by decide +kernel
theorem dX6_line_8 : decode cX6_line 8 = .ok (.invokevirtual 41, 3) := by decide +kernel
theorem dX6_line_11 : decode cX6_line 11 = .ok (.aload_n 0, 1) := by decide +kernel
theorem dX6_line_12 : decode cX6_line 12 = .ok (.getfield 30, 3) := by decide +kernel
theorem dX6_line_15 : decode cX6_line 15 = .ok (.aload_n 0, 1) := by decide +kernel
theorem dX6_line_16 : decode cX6_line 16 = .ok (.getfield 10, 3) := by decide +kernel
theorem dX6_line_19 : decode cX6_line 19 = .ok (.iload_n 1, 1) := by decide +kernel
theorem dX6_line_20 : decode cX6_line 20 = .ok (.iload_n 2, 1) := by decide +kernel
theorem dX6_line_21 : decode cX6_line 21 = .ok (.iload_n 3, 1) := by decide +kernel
theorem dX6_line_22 : decode cX6_line 22 = .ok (.iload 4, 2) := by decide +kernel
theorem dX6_line_24 : decode cX6_line 24 = .ok (.invokevirtual 53, 3) := by decide +kernel
theorem dX6_line_27 : decode cX6_line 27 = .ok (.invokevirtual 49, 3) := by decide +kernel
theorem dX6_line_30 : decode cX6_line 30 = .ok (.ireturn, 1) := by decide +kernel
theorem dX6_timer_0 : decode cX6_timer 0 = .ok (.aload_n 0, 1) := by decide +kernel
theorem dX6_timer_1 : decode cX6_timer 1 = .ok (.getfield 30, 3) := by decide +kernel
theorem dX6_timer_4 : decode cX6_timer 4 = .ok (.aload_n 0, 1) := by decide +kernel
theorem dX6_timer_5 : decode cX6_timer 5 = .ok (.getfield 10, 3) := by decide +kernel
theorem dX6_timer_8 : decode cX6_timer 8 = .ok (.invokevirtual 41, 3) := by decide +kernel
theorem dX6_timer_11 : decode cX6_timer 11 = .ok (.aload_n 0, 1) := by decide +kernel
theorem dX6_timer_12 : decode cX6_timer 12 = .ok (.getfield 30, 3) := by decide +kernel
theorem dX6_timer_15 : decode cX6_timer 15 = .ok (.aload_n 0, 1) := by decide +kernel
theorem dX6_timer_16 : decode cX6_timer 16 = .ok (.getfield 10, 3) := by decide +kernel
theorem dX6_timer_19 : decode cX6_timer 19 = .ok (.iload_n 1, 1) := by decide +kernel
theorem dX6_timer_20 : decode cX6_timer 20 = .ok (.iload_n 2, 1) := by decide +kernel
theorem dX6_timer_21 : decode cX6_timer 21 = .ok (.iload_n 3, 1) := by decide +kernel
theorem dX6_timer_22 : decode cX6_timer 22 = .ok (.invokevirtual 57, 3) := by decide +kernel
theorem dX6_timer_25 : decode cX6_timer 25 = .ok (.invokevirtual 49, 3) := by decide +kernel
theorem dX6_timer_28 : decode cX6_timer 28 = .ok (.ireturn, 1) := by decide +kernel
theorem dX6_stop_0 : decode cX6_stop 0 = .ok (.aload_n 0, 1) := by decide +kernel
theorem dX6_stop_1 : decode cX6_stop 1 = .ok (.getfield 30, 3) := by decide +kernel
theorem dX6_stop_4 : decode cX6_stop 4 = .ok (.aload_n 0, 1) := by decide +kernel
theorem dX6_stop_5 : decode cX6_stop 5 = .ok (.getfield 10, 3) := by decide +kernel
theorem dX6_stop_8 : decode cX6_stop 8 = .ok (.invokevirtual 41, 3) := by decide +kernel
theorem dX6_stop_11 : decode cX6_stop 11 = .ok (.aload_n 0, 1) := by decide +kernel
theorem dX6_stop_12 : decode cX6_stop 12 = .ok (.getfield 30, 3) := by decide +kernel
theorem dX6_stop_15 : decode cX6_stop 15 = .ok (.aload_n 0, 1) := by decide +kernel
theorem dX6_stop_16 : decode cX6_stop 16 = .ok (.getfield 10, 3) := by decide +kernel
theorem dX6_stop_19 : decode cX6_stop 19 = .ok (.iload_n 1, 1) := by decide +kernel
theorem dX6_stop_20 : decode cX6_stop 20 = .ok (.invokevirtual 61, 3) := by decide +kernel
theorem dX6_stop_23 : decode cX6_stop 23 = .ok (.invokevirtual 49, 3) := by decide +kernel
theorem dX6_stop_26 : decode cX6_stop 26 = .ok (.ireturn, 1) := by decide +kernel
theorem dX6_raise_0 : decode cX6_raise 0 = .ok (.aload_n 0, 1) := by decide +kernel
theorem dX6_raise_1 : decode cX6_raise 1 = .ok (.getfield 30, 3) := by decide +kernel
theorem dX6_raise_4 : decode cX6_raise 4 = .ok (.aload_n 0, 1) := by decide +kernel
theorem dX6_raise_5 : decode cX6_raise 5 = .ok (.getfield 10, 3) := by decide +kernel
theorem dX6_raise_8 : decode cX6_raise 8 = .ok (.invokevirtual 41, 3) := by decide +kernel
theorem dX6_raise_11 : decode cX6_raise 11 = .ok (.aload_n 0, 1) := by decide +kernel
theorem dX6_raise_12 : decode cX6_raise 12 = .ok (.getfield 30, 3) := by decide +kernel
theorem dX6_raise_15 : decode cX6_raise 15 = .ok (.aload_n 0, 1) := by decide +kernel
theorem dX6_raise_16 : decode cX6_raise 16 = .ok (.getfield 10, 3) := by decide +kernel
theorem dX6_raise_19 : decode cX6_raise 19 = .ok (.iload_n 1, 1) := by decide +kernel
theorem dX6_raise_20 : decode cX6_raise 20 = .ok (.invokevirtual 64, 3) := by decide +kernel
theorem dX6_raise_23 : decode cX6_raise 23 = .ok (.invokevirtual 49, 3) := by decide +kernel
theorem dX6_raise_26 : decode cX6_raise 26 = .ok (.ireturn, 1) := by decide +kernel
theorem dX6_hold_0 : decode cX6_hold 0 = .ok (.aload_n 0, 1) := by decide +kernel
theorem dX6_hold_1 : decode cX6_hold 1 = .ok (.getfield 30, 3) := by decide +kernel
theorem dX6_hold_4 : decode cX6_hold 4 = .ok (.aload_n 0, 1) := by decide +kernel
theorem dX6_hold_5 : decode cX6_hold 5 = .ok (.getfield 10, 3) := by decide +kernel
theorem dX6_hold_8 : decode cX6_hold 8 = .ok (.invokevirtual 41, 3) := by decide +kernel
theorem dX6_hold_11 : decode cX6_hold 11 = .ok (.aload_n 0, 1) := by decide +kernel
theorem dX6_hold_12 : decode cX6_hold 12 = .ok (.getfield 30, 3) := by decide +kernel
theorem dX6_hold_15 : decode cX6_hold 15 = .ok (.aload_n 0, 1) := by decide +kernel
theorem dX6_hold_16 : decode cX6_hold 16 = .ok (.getfield 10, 3) := by decide +kernel
theorem dX6_hold_19 : decode cX6_hold 19 = .ok (.iload_n 1, 1) := by decide +kernel
theorem dX6_hold_20 : decode cX6_hold 20 = .ok (.iload_n 2, 1) := by decide +kernel
theorem dX6_hold_21 : decode cX6_hold 21 = .ok (.iload_n 3, 1) := by decide +kernel
theorem dX6_hold_22 : decode cX6_hold 22 = .ok (.invokevirtual 67, 3) := by decide +kernel
theorem dX6_hold_25 : decode cX6_hold 25 = .ok (.invokevirtual 49, 3) := by decide +kernel
theorem dX6_hold_28 : decode cX6_hold 28 = .ok (.ireturn, 1) := by decide +kernel
theorem dX6_mask_0 : decode cX6_mask 0 = .ok (.aload_n 0, 1) := by decide +kernel
theorem dX6_mask_1 : decode cX6_mask 1 = .ok (.getfield 30, 3) := by decide +kernel
theorem dX6_mask_4 : decode cX6_mask 4 = .ok (.aload_n 0, 1) := by decide +kernel
theorem dX6_mask_5 : decode cX6_mask 5 = .ok (.getfield 10, 3) := by decide +kernel
theorem dX6_mask_8 : decode cX6_mask 8 = .ok (.invokevirtual 41, 3) := by decide +kernel
theorem dX6_mask_11 : decode cX6_mask 11 = .ok (.aload_n 0, 1) := by decide +kernel
theorem dX6_mask_12 : decode cX6_mask 12 = .ok (.getfield 30, 3) := by decide +kernel
theorem dX6_mask_15 : decode cX6_mask 15 = .ok (.aload_n 0, 1) := by decide +kernel
theorem dX6_mask_16 : decode cX6_mask 16 = .ok (.getfield 10, 3) := by decide +kernel
theorem dX6_mask_19 : decode cX6_mask 19 = .ok (.iload_n 1, 1) := by decide +kernel
theorem dX6_mask_20 : decode cX6_mask 20 = .ok (.iload_n 2, 1) := by decide +kernel
theorem dX6_mask_21 : decode cX6_mask 21 = .ok (.invokevirtual 70, 3) := by decide +kernel
theorem dX6_mask_24 : decode cX6_mask 24 = .ok (.invokevirtual 49, 3) := by decide +kernel
theorem dX6_mask_27 : decode cX6_mask 27 = .ok (.ireturn, 1) := by decide +kernel
theorem dX6_change_0 : decode cX6_change 0 = .ok (.aload_n 0, 1) := by decide +kernel
theorem dX6_change_1 : decode cX6_change 1 = .ok (.getfield 30, 3) := by decide +kernel
theorem dX6_change_4 : decode cX6_change 4 = .ok (.aload_n 0, 1) := by decide +kernel
theorem dX6_change_5 : decode cX6_change 5 = .ok (.getfield 10, 3) := by decide +kernel
theorem dX6_change_8 : decode cX6_change 8 = .ok (.invokevirtual 41, 3) := by decide +kernel
theorem dX6_change_11 : decode cX6_change 11 = .ok (.aload_n 0, 1) := by decide +kernel
theorem dX6_change_12 : decode cX6_change 12 = .ok (.getfield 30, 3) := by decide +kernel
theorem dX6_change_15 : decode cX6_change 15 = .ok (.aload_n 0, 1) := by decide +kernel
theorem dX6_change_16 : decode cX6_change 16 = .ok (.getfield 10, 3) := by decide +kernel
theorem dX6_change_19 : decode cX6_change 19 = .ok (.iload_n 1, 1) := by decide +kernel
theorem dX6_change_20 : decode cX6_change 20 = .ok (.iload_n 2, 1) := by decide +kernel
theorem dX6_change_21 : decode cX6_change 21 = .ok (.iload_n 3, 1) := by decide +kernel
theorem dX6_change_22 : decode cX6_change 22 = .ok (.iload 4, 2) := by decide +kernel
theorem dX6_change_24 : decode cX6_change 24 = .ok (.invokevirtual 73, 3) := by decide +kernel
theorem dX6_change_27 : decode cX6_change 27 = .ok (.invokevirtual 49, 3) := by decide +kernel
theorem dX6_change_30 : decode cX6_change 30 = .ok (.ireturn, 1) := by decide +kernel
theorem dX6_ticks_0 : decode cX6_ticks 0 = .ok (.aload_n 0, 1) := by decide +kernel
theorem dX6_ticks_1 : decode cX6_ticks 1 = .ok (.getfield 30, 3) := by decide +kernel
theorem dX6_ticks_4 : decode cX6_ticks 4 = .ok (.aload_n 0, 1) := by decide +kernel
theorem dX6_ticks_5 : decode cX6_ticks 5 = .ok (.getfield 10, 3) := by decide +kernel
theorem dX6_ticks_8 : decode cX6_ticks 8 = .ok (.invokevirtual 41, 3) := by decide +kernel
theorem dX6_ticks_11 : decode cX6_ticks 11 = .ok (.aload_n 0, 1) := by decide +kernel
theorem dX6_ticks_12 : decode cX6_ticks 12 = .ok (.getfield 30, 3) := by decide +kernel
theorem dX6_ticks_15 : decode cX6_ticks 15 = .ok (.aload_n 0, 1) := by decide +kernel
theorem dX6_ticks_16 : decode cX6_ticks 16 = .ok (.getfield 10, 3) := by decide +kernel
theorem dX6_ticks_19 : decode cX6_ticks 19 = .ok (.iload_n 1, 1) := by decide +kernel
theorem dX6_ticks_20 : decode cX6_ticks 20 = .ok (.invokevirtual 76, 3) := by decide +kernel
theorem dX6_ticks_23 : decode cX6_ticks 23 = .ok (.invokevirtual 49, 3) := by decide +kernel
theorem dX6_ticks_26 : decode cX6_ticks 26 = .ok (.ireturn, 1) := by decide +kernel
theorem dX6_ofLine_0 : decode cX6_ofLine 0 = .ok (.aload_n 0, 1) := by decide +kernel
theorem dX6_ofLine_1 : decode cX6_ofLine 1 = .ok (.getfield 10, 3) := by decide +kernel
theorem dX6_ofLine_4 : decode cX6_ofLine 4 = .ok (.iload_n 1, 1) := by decide +kernel
theorem dX6_ofLine_5 : decode cX6_ofLine 5 = .ok (.iload_n 2, 1) := by decide +kernel
theorem dX6_ofLine_6 : decode cX6_ofLine 6 = .ok (.invokevirtual 79, 3) := by decide +kernel
theorem dX6_ofLine_9 : decode cX6_ofLine 9 = .ok (.ireturn, 1) := by decide +kernel
theorem dX6_ofNest_0 : decode cX6_ofNest 0 = .ok (.aload_n 0, 1) := by decide +kernel
theorem dX6_ofNest_1 : decode cX6_ofNest 1 = .ok (.getfield 10, 3) := by decide +kernel
theorem dX6_ofNest_4 : decode cX6_ofNest 4 = .ok (.iload_n 1, 1) := by decide +kernel
theorem dX6_ofNest_5 : decode cX6_ofNest 5 = .ok (.iload_n 2, 1) := by decide +kernel
theorem dX6_ofNest_6 : decode cX6_ofNest 6 = .ok (.invokevirtual 82, 3) := by decide +kernel
theorem dX6_ofNest_9 : decode cX6_ofNest 9 = .ok (.ireturn, 1) := by decide +kernel
theorem dX6_ofTimer_0 : decode cX6_ofTimer 0 = .ok (.aload_n 0, 1) := by decide +kernel
theorem dX6_ofTimer_1 : decode cX6_ofTimer 1 = .ok (.getfield 10, 3) := by decide +kernel
theorem dX6_ofTimer_4 : decode cX6_ofTimer 4 = .ok (.iload_n 1, 1) := by decide +kernel
theorem dX6_ofTimer_5 : decode cX6_ofTimer 5 = .ok (.iload_n 2, 1) := by decide +kernel
theorem dX6_ofTimer_6 : decode cX6_ofTimer 6 = .ok (.invokevirtual 85, 3) := by decide +kernel
theorem dX6_ofTimer_9 : decode cX6_ofTimer 9 = .ok (.ireturn, 1) := by decide +kernel
theorem dX6_count_0 : decode cX6_count 0 = .ok (.iload_n 1, 1) := by decide +kernel
theorem dX6_count_1 : decode cX6_count 1 = .ok (.lookupswitch 43 #[(10, 27), (11, 35)], 27) := by decide +kernel
theorem dX6_count_28 : decode cX6_count 28 = .ok (.aload_n 0, 1) := by decide +kernel
theorem dX6_count_29 : decode cX6_count 29 = .ok (.getfield 37, 3) := by decide +kernel
theorem dX6_count_32 : decode cX6_count 32 = .ok (.getfield 88, 3) := by decide +kernel
theorem dX6_count_35 : decode cX6_count 35 = .ok (.ireturn, 1) := by decide +kernel
theorem dX6_count_36 : decode cX6_count 36 = .ok (.aload_n 0, 1) := by decide +kernel
theorem dX6_count_37 : decode cX6_count 37 = .ok (.getfield 30, 3) := by decide +kernel
theorem dX6_count_40 : decode cX6_count 40 = .ok (.getfield 92, 3) := by decide +kernel
theorem dX6_count_43 : decode cX6_count 43 = .ok (.ireturn, 1) := by decide +kernel
theorem dX6_count_44 : decode cX6_count 44 = .ok (.aload_n 0, 1) := by decide +kernel
theorem dX6_count_45 : decode cX6_count 45 = .ok (.getfield 10, 3) := by decide +kernel
theorem dX6_count_48 : decode cX6_count 48 = .ok (.iload_n 1, 1) := by decide +kernel
theorem dX6_count_49 : decode cX6_count 49 = .ok (.invokevirtual 95, 3) := by decide +kernel
theorem dX6_count_52 : decode cX6_count 52 = .ok (.ireturn, 1) := by decide +kernel
theorem dX6_within_0 : decode cX6_within 0 = .ok (.iload_n 0, 1) := by decide +kernel
theorem dX6_within_1 : decode cX6_within 1 = .ok (.iload_n 1, 1) := by decide +kernel
theorem dX6_within_2 : decode cX6_within 2 = .ok (.if_icmp .lt 12, 3) := by decide +kernel
theorem dX6_within_5 : decode cX6_within 5 = .ok (.iload_n 0, 1) := by decide +kernel
theorem dX6_within_6 : decode cX6_within 6 = .ok (.iload_n 2, 1) := by decide +kernel
theorem dX6_within_7 : decode cX6_within 7 = .ok (.if_icmp .gt 7, 3) := by decide +kernel
theorem dX6_within_10 : decode cX6_within 10 = .ok (.iconst 1, 1) := by decide +kernel
theorem dX6_within_11 : decode cX6_within 11 = .ok (.goto 4, 3) := by decide +kernel
theorem dX6_within_14 : decode cX6_within 14 = .ok (.iconst 0, 1) := by decide +kernel
theorem dX6_within_15 : decode cX6_within 15 = .ok (.ireturn, 1) := by decide +kernel
end
section
-- decode rows, printed by the check's program
theorem dL_cell_0 : decode cL_cell 0 = .ok (.aload_n 0, 1) := by decide +kernel
theorem dL_cell_1 : decode cL_cell 1 = .ok (.arraylength, 1) := by decide +kernel
theorem dL_cell_2 : decode cL_cell 2 = .ok (.ifCond .ne 12, 3) := by decide +kernel
theorem dL_cell_5 : decode cL_cell 5 = .ok (.iload_n 1, 1) := by decide +kernel
theorem dL_cell_6 : decode cL_cell 6 = .ok (.bipush 37, 2) := by decide +kernel
theorem dL_cell_8 : decode cL_cell 8 = .ok (.imul, 1) := by decide +kernel
theorem dL_cell_9 : decode cL_cell 9 = .ok (.iconst 5, 1) := by decide +kernel
theorem dL_cell_10 : decode cL_cell 10 = .ok (.iadd, 1) := by decide +kernel
theorem dL_cell_11 : decode cL_cell 11 = .ok (.goto 17, 3) := by decide +kernel
theorem dL_cell_14 : decode cL_cell 14 = .ok (.aload_n 0, 1) := by decide +kernel
theorem dL_cell_15 : decode cL_cell 15 = .ok (.iload_n 1, 1) := by decide +kernel
theorem dL_cell_16 : decode cL_cell 16 = .ok (.aload_n 0, 1) := by decide +kernel
theorem dL_cell_17 : decode cL_cell 17 = .ok (.arraylength, 1) := by decide +kernel
theorem dL_cell_18 : decode cL_cell 18 = .ok (.irem, 1) := by decide +kernel
theorem dL_cell_19 : decode cL_cell 19 = .ok (.iaload, 1) := by decide +kernel
theorem dL_cell_20 : decode cL_cell 20 = .ok (.iload_n 1, 1) := by decide +kernel
theorem dL_cell_21 : decode cL_cell 21 = .ok (.bipush 7, 2) := by decide +kernel
theorem dL_cell_23 : decode cL_cell 23 = .ok (.irem, 1) := by decide +kernel
theorem dL_cell_24 : decode cL_cell 24 = .ok (.ishr, 1) := by decide +kernel
theorem dL_cell_25 : decode cL_cell 25 = .ok (.ldc 7, 2) := by decide +kernel
theorem dL_cell_27 : decode cL_cell 27 = .ok (.iand, 1) := by decide +kernel
theorem dL_cell_28 : decode cL_cell 28 = .ok (.iload_n 2, 1) := by decide +kernel
theorem dL_cell_29 : decode cL_cell 29 = .ok (.irem, 1) := by decide +kernel
theorem dL_cell_30 : decode cL_cell 30 = .ok (.ireturn, 1) := by decide +kernel
theorem dL_has_0 : decode cL_has 0 = .ok (.iload_n 0, 1) := by decide +kernel
theorem dL_has_1 : decode cL_has 1 = .ok (.iload_n 1, 1) := by decide +kernel
theorem dL_has_2 : decode cL_has 2 = .ok (.ishr, 1) := by decide +kernel
theorem dL_has_3 : decode cL_has 3 = .ok (.iconst 1, 1) := by decide +kernel
theorem dL_has_4 : decode cL_has 4 = .ok (.iand, 1) := by decide +kernel
theorem dL_has_5 : decode cL_has 5 = .ok (.iconst 1, 1) := by decide +kernel
theorem dL_has_6 : decode cL_has 6 = .ok (.if_icmp .ne 7, 3) := by decide +kernel
theorem dL_has_9 : decode cL_has 9 = .ok (.iconst 1, 1) := by decide +kernel
theorem dL_has_10 : decode cL_has 10 = .ok (.goto 4, 3) := by decide +kernel
theorem dL_has_13 : decode cL_has 13 = .ok (.iconst 0, 1) := by decide +kernel
theorem dL_has_14 : decode cL_has 14 = .ok (.ireturn, 1) := by decide +kernel
theorem dL_present_0 : decode cL_present 0 = .ok (.aload_n 0, 1) := by decide +kernel
theorem dL_present_1 : decode cL_present 1 = .ok (.iload_n 1, 1) := by decide +kernel
theorem dL_present_2 : decode cL_present 2 = .ok (.iconst 0, 1) := by decide +kernel
theorem dL_present_3 : decode cL_present 3 = .ok (.invokevirtual 8, 3) := by decide +kernel
theorem dL_present_6 : decode cL_present 6 = .ok (.istore 4, 2) := by decide +kernel
theorem dL_present_8 : decode cL_present 8 = .ok (.iload_n 2, 1) := by decide +kernel
theorem dL_present_9 : decode cL_present 9 = .ok (.ifCond .eq 23, 3) := by decide +kernel
theorem dL_present_12 : decode cL_present 12 = .ok (.aload_n 0, 1) := by decide +kernel
theorem dL_present_13 : decode cL_present 13 = .ok (.bipush 12, 2) := by decide +kernel
theorem dL_present_15 : decode cL_present 15 = .ok (.invokevirtual 14, 3) := by decide +kernel
theorem dL_present_18 : decode cL_present 18 = .ok (.ifCond .eq 14, 3) := by decide +kernel
theorem dL_present_21 : decode cL_present 21 = .ok (.iload 4, 2) := by decide +kernel
theorem dL_present_23 : decode cL_present 23 = .ok (.aload_n 0, 1) := by decide +kernel
theorem dL_present_24 : decode cL_present 24 = .ok (.bipush 13, 2) := by decide +kernel
theorem dL_present_26 : decode cL_present 26 = .ok (.invokevirtual 14, 3) := by decide +kernel
theorem dL_present_29 : decode cL_present 29 = .ok (.if_icmp .lt 6, 3) := by decide +kernel
theorem dL_present_32 : decode cL_present 32 = .ok (.iload 4, 2) := by decide +kernel
theorem dL_present_34 : decode cL_present 34 = .ok (.ireturn, 1) := by decide +kernel
theorem dL_present_35 : decode cL_present 35 = .ok (.iload 4, 2) := by decide +kernel
theorem dL_present_37 : decode cL_present 37 = .ok (.iload_n 3, 1) := by decide +kernel
theorem dL_present_38 : decode cL_present 38 = .ok (.aload_n 0, 1) := by decide +kernel
theorem dL_present_39 : decode cL_present 39 = .ok (.bipush 12, 2) := by decide +kernel
theorem dL_present_41 : decode cL_present 41 = .ok (.invokevirtual 14, 3) := by decide +kernel
theorem dL_present_44 : decode cL_present 44 = .ok (.idiv, 1) := by decide +kernel
theorem dL_present_45 : decode cL_present 45 = .ok (.iadd, 1) := by decide +kernel
theorem dL_present_46 : decode cL_present 46 = .ok (.istore 5, 2) := by decide +kernel
theorem dL_present_48 : decode cL_present 48 = .ok (.iload 5, 2) := by decide +kernel
theorem dL_present_50 : decode cL_present 50 = .ok (.aload_n 0, 1) := by decide +kernel
theorem dL_present_51 : decode cL_present 51 = .ok (.bipush 13, 2) := by decide +kernel
theorem dL_present_53 : decode cL_present 53 = .ok (.invokevirtual 14, 3) := by decide +kernel
theorem dL_present_56 : decode cL_present 56 = .ok (.if_icmp .ge 8, 3) := by decide +kernel
theorem dL_present_59 : decode cL_present 59 = .ok (.iload 5, 2) := by decide +kernel
theorem dL_present_61 : decode cL_present 61 = .ok (.goto 9, 3) := by decide +kernel
theorem dL_present_64 : decode cL_present 64 = .ok (.aload_n 0, 1) := by decide +kernel
theorem dL_present_65 : decode cL_present 65 = .ok (.bipush 13, 2) := by decide +kernel
theorem dL_present_67 : decode cL_present 67 = .ok (.invokevirtual 14, 3) := by decide +kernel
theorem dL_present_70 : decode cL_present 70 = .ok (.ireturn, 1) := by decide +kernel
theorem dL_agree_0 : decode cL_agree 0 = .ok (.iconst 0, 1) := by decide +kernel
theorem dL_agree_1 : decode cL_agree 1 = .ok (.istore_n 1, 1) := by decide +kernel
theorem dL_agree_2 : decode cL_agree 2 = .ok (.iconst 0, 1) := by decide +kernel
theorem dL_agree_3 : decode cL_agree 3 = .ok (.istore_n 2, 1) := by decide +kernel
theorem dL_agree_4 : decode cL_agree 4 = .ok (.bipush (-6), 2) := by decide +kernel
theorem dL_agree_6 : decode cL_agree 6 = .ok (.istore_n 3, 1) := by decide +kernel
theorem dL_agree_7 : decode cL_agree 7 = .ok (.iconst 0, 1) := by decide +kernel
theorem dL_agree_8 : decode cL_agree 8 = .ok (.istore 4, 2) := by decide +kernel
theorem dL_agree_10 : decode cL_agree 10 = .ok (.iload 4, 2) := by decide +kernel
theorem dL_agree_12 : decode cL_agree 12 = .ok (.aload_n 0, 1) := by decide +kernel
theorem dL_agree_13 : decode cL_agree 13 = .ok (.iconst 1, 1) := by decide +kernel
theorem dL_agree_14 : decode cL_agree 14 = .ok (.invokevirtual 14, 3) := by decide +kernel
theorem dL_agree_17 : decode cL_agree 17 = .ok (.if_icmp .ge 369, 3) := by decide +kernel
theorem dL_agree_20 : decode cL_agree 20 = .ok (.aload_n 0, 1) := by decide +kernel
theorem dL_agree_21 : decode cL_agree 21 = .ok (.iload 4, 2) := by decide +kernel
theorem dL_agree_23 : decode cL_agree 23 = .ok (.iconst 5, 1) := by decide +kernel
theorem dL_agree_24 : decode cL_agree 24 = .ok (.invokevirtual 8, 3) := by decide +kernel
theorem dL_agree_27 : decode cL_agree 27 = .ok (.istore 5, 2) := by decide +kernel
theorem dL_agree_29 : decode cL_agree 29 = .ok (.aload_n 0, 1) := by decide +kernel
theorem dL_agree_30 : decode cL_agree 30 = .ok (.iload 4, 2) := by decide +kernel
theorem dL_agree_32 : decode cL_agree 32 = .ok (.bipush 8, 2) := by decide +kernel
theorem dL_agree_34 : decode cL_agree 34 = .ok (.invokevirtual 8, 3) := by decide +kernel
theorem dL_agree_37 : decode cL_agree 37 = .ok (.istore 6, 2) := by decide +kernel
theorem dL_agree_39 : decode cL_agree 39 = .ok (.aload_n 0, 1) := by decide +kernel
theorem dL_agree_40 : decode cL_agree 40 = .ok (.iload 4, 2) := by decide +kernel
theorem dL_agree_42 : decode cL_agree 42 = .ok (.bipush 6, 2) := by decide +kernel
theorem dL_agree_44 : decode cL_agree 44 = .ok (.invokevirtual 8, 3) := by decide +kernel
theorem dL_agree_47 : decode cL_agree 47 = .ok (.istore 7, 2) := by decide +kernel
theorem dL_agree_49 : decode cL_agree 49 = .ok (.iload_n 1, 1) := by decide +kernel
theorem dL_agree_50 : decode cL_agree 50 = .ok (.iload 5, 2) := by decide +kernel
theorem dL_agree_52 : decode cL_agree 52 = .ok (.iload 4, 2) := by decide +kernel
theorem dL_agree_54 : decode cL_agree 54 = .ok (.ishl, 1) := by decide +kernel
theorem dL_agree_55 : decode cL_agree 55 = .ok (.ior, 1) := by decide +kernel
theorem dL_agree_56 : decode cL_agree 56 = .ok (.istore_n 1, 1) := by decide +kernel
theorem dL_agree_57 : decode cL_agree 57 = .ok (.iload_n 2, 1) := by decide +kernel
theorem dL_agree_58 : decode cL_agree 58 = .ok (.aload_n 0, 1) := by decide +kernel
theorem dL_agree_59 : decode cL_agree 59 = .ok (.iload 4, 2) := by decide +kernel
theorem dL_agree_61 : decode cL_agree 61 = .ok (.bipush 16, 2) := by decide +kernel
theorem dL_agree_63 : decode cL_agree 63 = .ok (.invokevirtual 8, 3) := by decide +kernel
theorem dL_agree_66 : decode cL_agree 66 = .ok (.iadd, 1) := by decide +kernel
theorem dL_agree_67 : decode cL_agree 67 = .ok (.istore_n 2, 1) := by decide +kernel
theorem dL_agree_68 : decode cL_agree 68 = .ok (.iload 5, 2) := by decide +kernel
theorem dL_agree_70 : decode cL_agree 70 = .ok (.iconst 1, 1) := by decide +kernel
theorem dL_agree_71 : decode cL_agree 71 = .ok (.if_icmp .ne 11, 3) := by decide +kernel
theorem dL_agree_74 : decode cL_agree 74 = .ok (.iload 7, 2) := by decide +kernel
theorem dL_agree_76 : decode cL_agree 76 = .ok (.ifCond .ge 15, 3) := by decide +kernel
theorem dL_agree_79 : decode cL_agree 79 = .ok (.goto 10, 3) := by decide +kernel
theorem dL_agree_82 : decode cL_agree 82 = .ok (.iload 7, 2) := by decide +kernel
theorem dL_agree_84 : decode cL_agree 84 = .ok (.bipush (-6), 2) := by decide +kernel
theorem dL_agree_86 : decode cL_agree 86 = .ok (.if_icmp .eq 5, 3) := by decide +kernel
theorem dL_agree_89 : decode cL_agree 89 = .ok (.iconst 0, 1) := by decide +kernel
theorem dL_agree_90 : decode cL_agree 90 = .ok (.ireturn, 1) := by decide +kernel
theorem dL_agree_91 : decode cL_agree 91 = .ok (.aload_n 0, 1) := by decide +kernel
theorem dL_agree_92 : decode cL_agree 92 = .ok (.iload 4, 2) := by decide +kernel
theorem dL_agree_94 : decode cL_agree 94 = .ok (.bipush 7, 2) := by decide +kernel
theorem dL_agree_96 : decode cL_agree 96 = .ok (.invokevirtual 8, 3) := by decide +kernel
theorem dL_agree_99 : decode cL_agree 99 = .ok (.aload_n 0, 1) := by decide +kernel
theorem dL_agree_100 : decode cL_agree 100 = .ok (.iload 4, 2) := by decide +kernel
theorem dL_agree_102 : decode cL_agree 102 = .ok (.iload 5, 2) := by decide +kernel
theorem dL_agree_104 : decode cL_agree 104 = .ok (.iload 7, 2) := by decide +kernel
theorem dL_agree_106 : decode cL_agree 106 = .ok (.invokestatic 18, 3) := by decide +kernel
theorem dL_agree_109 : decode cL_agree 109 = .ok (.if_icmp .ne 61, 3) := by decide +kernel
theorem dL_agree_112 : decode cL_agree 112 = .ok (.aload_n 0, 1) := by decide +kernel
theorem dL_agree_113 : decode cL_agree 113 = .ok (.iload 4, 2) := by decide +kernel
theorem dL_agree_115 : decode cL_agree 115 = .ok (.iconst 3, 1) := by decide +kernel
theorem dL_agree_116 : decode cL_agree 116 = .ok (.invokevirtual 8, 3) := by decide +kernel
theorem dL_agree_119 : decode cL_agree 119 = .ok (.iconst 1, 1) := by decide +kernel
theorem dL_agree_120 : decode cL_agree 120 = .ok (.if_icmp .ne 29, 3) := by decide +kernel
theorem dL_agree_123 : decode cL_agree 123 = .ok (.iload 5, 2) := by decide +kernel
theorem dL_agree_125 : decode cL_agree 125 = .ok (.aload_n 0, 1) := by decide +kernel
theorem dL_agree_126 : decode cL_agree 126 = .ok (.iload 4, 2) := by decide +kernel
theorem dL_agree_128 : decode cL_agree 128 = .ok (.bipush 9, 2) := by decide +kernel
theorem dL_agree_130 : decode cL_agree 130 = .ok (.invokevirtual 8, 3) := by decide +kernel
theorem dL_agree_133 : decode cL_agree 133 = .ok (.ifCond .eq 12, 3) := by decide +kernel
theorem dL_agree_136 : decode cL_agree 136 = .ok (.iload 6, 2) := by decide +kernel
theorem dL_agree_138 : decode cL_agree 138 = .ok (.ifCond .ge 7, 3) := by decide +kernel
theorem dL_agree_141 : decode cL_agree 141 = .ok (.iconst 1, 1) := by decide +kernel
theorem dL_agree_142 : decode cL_agree 142 = .ok (.goto 4, 3) := by decide +kernel
theorem dL_agree_145 : decode cL_agree 145 = .ok (.iconst 0, 1) := by decide +kernel
theorem dL_agree_146 : decode cL_agree 146 = .ok (.if_icmp .ne 24, 3) := by decide +kernel
theorem dL_agree_149 : decode cL_agree 149 = .ok (.aload_n 0, 1) := by decide +kernel
theorem dL_agree_150 : decode cL_agree 150 = .ok (.iload 4, 2) := by decide +kernel
theorem dL_agree_152 : decode cL_agree 152 = .ok (.iconst 3, 1) := by decide +kernel
theorem dL_agree_153 : decode cL_agree 153 = .ok (.invokevirtual 8, 3) := by decide +kernel
theorem dL_agree_156 : decode cL_agree 156 = .ok (.ifCond .ne 16, 3) := by decide +kernel
theorem dL_agree_159 : decode cL_agree 159 = .ok (.aload_n 0, 1) := by decide +kernel
theorem dL_agree_160 : decode cL_agree 160 = .ok (.iload 4, 2) := by decide +kernel
theorem dL_agree_162 : decode cL_agree 162 = .ok (.bipush 9, 2) := by decide +kernel
theorem dL_agree_164 : decode cL_agree 164 = .ok (.invokevirtual 8, 3) := by decide +kernel
theorem dL_agree_167 : decode cL_agree 167 = .ok (.ifCond .eq 5, 3) := by decide +kernel
theorem dL_agree_170 : decode cL_agree 170 = .ok (.iconst 0, 1) := by decide +kernel
theorem dL_agree_171 : decode cL_agree 171 = .ok (.ireturn, 1) := by decide +kernel
theorem dL_agree_172 : decode cL_agree 172 = .ok (.iload 6, 2) := by decide +kernel
theorem dL_agree_174 : decode cL_agree 174 = .ok (.ifCond .lt 15, 3) := by decide +kernel
theorem dL_agree_177 : decode cL_agree 177 = .ok (.aload_n 0, 1) := by decide +kernel
theorem dL_agree_178 : decode cL_agree 178 = .ok (.iload 6, 2) := by decide +kernel
theorem dL_agree_180 : decode cL_agree 180 = .ok (.iconst 0, 1) := by decide +kernel
theorem dL_agree_181 : decode cL_agree 181 = .ok (.invokevirtual 24, 3) := by decide +kernel
theorem dL_agree_184 : decode cL_agree 184 = .ok (.iload 4, 2) := by decide +kernel
theorem dL_agree_186 : decode cL_agree 186 = .ok (.if_icmp .ne 71, 3) := by decide +kernel
theorem dL_agree_189 : decode cL_agree 189 = .ok (.aload_n 0, 1) := by decide +kernel
theorem dL_agree_190 : decode cL_agree 190 = .ok (.iload 4, 2) := by decide +kernel
theorem dL_agree_192 : decode cL_agree 192 = .ok (.bipush 12, 2) := by decide +kernel
theorem dL_agree_194 : decode cL_agree 194 = .ok (.invokevirtual 8, 3) := by decide +kernel
theorem dL_agree_197 : decode cL_agree 197 = .ok (.aload_n 0, 1) := by decide +kernel
theorem dL_agree_198 : decode cL_agree 198 = .ok (.iload 4, 2) := by decide +kernel
theorem dL_agree_200 : decode cL_agree 200 = .ok (.bipush 13, 2) := by decide +kernel
theorem dL_agree_202 : decode cL_agree 202 = .ok (.invokevirtual 8, 3) := by decide +kernel
theorem dL_agree_205 : decode cL_agree 205 = .ok (.isub, 1) := by decide +kernel
theorem dL_agree_206 : decode cL_agree 206 = .ok (.iload 6, 2) := by decide +kernel
theorem dL_agree_208 : decode cL_agree 208 = .ok (.ifCond .ge 7, 3) := by decide +kernel
theorem dL_agree_211 : decode cL_agree 211 = .ok (.iconst 0, 1) := by decide +kernel
theorem dL_agree_212 : decode cL_agree 212 = .ok (.goto 4, 3) := by decide +kernel
theorem dL_agree_215 : decode cL_agree 215 = .ok (.iconst 1, 1) := by decide +kernel
theorem dL_agree_216 : decode cL_agree 216 = .ok (.if_icmp .ne 41, 3) := by decide +kernel
theorem dL_agree_219 : decode cL_agree 219 = .ok (.aload_n 0, 1) := by decide +kernel
theorem dL_agree_220 : decode cL_agree 220 = .ok (.iload 4, 2) := by decide +kernel
theorem dL_agree_222 : decode cL_agree 222 = .ok (.bipush 14, 2) := by decide +kernel
theorem dL_agree_224 : decode cL_agree 224 = .ok (.invokevirtual 8, 3) := by decide +kernel
theorem dL_agree_227 : decode cL_agree 227 = .ok (.aload_n 0, 1) := by decide +kernel
theorem dL_agree_228 : decode cL_agree 228 = .ok (.iload 4, 2) := by decide +kernel
theorem dL_agree_230 : decode cL_agree 230 = .ok (.bipush 15, 2) := by decide +kernel
theorem dL_agree_232 : decode cL_agree 232 = .ok (.invokevirtual 8, 3) := by decide +kernel
theorem dL_agree_235 : decode cL_agree 235 = .ok (.if_icmp .gt 22, 3) := by decide +kernel
theorem dL_agree_238 : decode cL_agree 238 = .ok (.aload_n 0, 1) := by decide +kernel
theorem dL_agree_239 : decode cL_agree 239 = .ok (.iload 4, 2) := by decide +kernel
theorem dL_agree_241 : decode cL_agree 241 = .ok (.bipush 11, 2) := by decide +kernel
theorem dL_agree_243 : decode cL_agree 243 = .ok (.invokevirtual 8, 3) := by decide +kernel
theorem dL_agree_246 : decode cL_agree 246 = .ok (.aload_n 0, 1) := by decide +kernel
theorem dL_agree_247 : decode cL_agree 247 = .ok (.iload 4, 2) := by decide +kernel
theorem dL_agree_249 : decode cL_agree 249 = .ok (.bipush 10, 2) := by decide +kernel
theorem dL_agree_251 : decode cL_agree 251 = .ok (.invokevirtual 8, 3) := by decide +kernel
theorem dL_agree_254 : decode cL_agree 254 = .ok (.if_icmp .le 5, 3) := by decide +kernel
theorem dL_agree_257 : decode cL_agree 257 = .ok (.iconst 0, 1) := by decide +kernel
theorem dL_agree_258 : decode cL_agree 258 = .ok (.ireturn, 1) := by decide +kernel
theorem dL_agree_259 : decode cL_agree 259 = .ok (.iload 5, 2) := by decide +kernel
theorem dL_agree_261 : decode cL_agree 261 = .ok (.iconst 1, 1) := by decide +kernel
theorem dL_agree_262 : decode cL_agree 262 = .ok (.if_icmp .ne 39, 3) := by decide +kernel
theorem dL_agree_265 : decode cL_agree 265 = .ok (.iload 6, 2) := by decide +kernel
theorem dL_agree_267 : decode cL_agree 267 = .ok (.ifCond .ge 34, 3) := by decide +kernel
theorem dL_agree_270 : decode cL_agree 270 = .ok (.aload_n 0, 1) := by decide +kernel
theorem dL_agree_271 : decode cL_agree 271 = .ok (.iload 4, 2) := by decide +kernel
theorem dL_agree_273 : decode cL_agree 273 = .ok (.iconst 4, 1) := by decide +kernel
theorem dL_agree_274 : decode cL_agree 274 = .ok (.invokevirtual 8, 3) := by decide +kernel
theorem dL_agree_277 : decode cL_agree 277 = .ok (.ifCond .ne 24, 3) := by decide +kernel
theorem dL_agree_280 : decode cL_agree 280 = .ok (.aload_n 0, 1) := by decide +kernel
theorem dL_agree_281 : decode cL_agree 281 = .ok (.iload 4, 2) := by decide +kernel
theorem dL_agree_283 : decode cL_agree 283 = .ok (.bipush 7, 2) := by decide +kernel
theorem dL_agree_285 : decode cL_agree 285 = .ok (.invokevirtual 8, 3) := by decide +kernel
theorem dL_agree_288 : decode cL_agree 288 = .ok (.aload_n 0, 1) := by decide +kernel
theorem dL_agree_289 : decode cL_agree 289 = .ok (.bipush 18, 2) := by decide +kernel
theorem dL_agree_291 : decode cL_agree 291 = .ok (.invokevirtual 14, 3) := by decide +kernel
theorem dL_agree_294 : decode cL_agree 294 = .ok (.if_icmp .lt 7, 3) := by decide +kernel
theorem dL_agree_297 : decode cL_agree 297 = .ok (.iconst 1, 1) := by decide +kernel
theorem dL_agree_298 : decode cL_agree 298 = .ok (.goto 4, 3) := by decide +kernel
theorem dL_agree_301 : decode cL_agree 301 = .ok (.iconst 0, 1) := by decide +kernel
theorem dL_agree_302 : decode cL_agree 302 = .ok (.istore 8, 2) := by decide +kernel
theorem dL_agree_304 : decode cL_agree 304 = .ok (.iload_n 3, 1) := by decide +kernel
theorem dL_agree_305 : decode cL_agree 305 = .ok (.ifCond .lt 51, 3) := by decide +kernel
theorem dL_agree_308 : decode cL_agree 308 = .ok (.aload_n 0, 1) := by decide +kernel
theorem dL_agree_309 : decode cL_agree 309 = .ok (.iload 4, 2) := by decide +kernel
theorem dL_agree_311 : decode cL_agree 311 = .ok (.bipush 7, 2) := by decide +kernel
theorem dL_agree_313 : decode cL_agree 313 = .ok (.invokevirtual 8, 3) := by decide +kernel
theorem dL_agree_316 : decode cL_agree 316 = .ok (.aload_n 0, 1) := by decide +kernel
theorem dL_agree_317 : decode cL_agree 317 = .ok (.iload_n 3, 1) := by decide +kernel
theorem dL_agree_318 : decode cL_agree 318 = .ok (.bipush 7, 2) := by decide +kernel
theorem dL_agree_320 : decode cL_agree 320 = .ok (.invokevirtual 8, 3) := by decide +kernel
theorem dL_agree_323 : decode cL_agree 323 = .ok (.if_icmp .gt 33, 3) := by decide +kernel
theorem dL_agree_326 : decode cL_agree 326 = .ok (.aload_n 0, 1) := by decide +kernel
theorem dL_agree_327 : decode cL_agree 327 = .ok (.iload 4, 2) := by decide +kernel
theorem dL_agree_329 : decode cL_agree 329 = .ok (.bipush 7, 2) := by decide +kernel
theorem dL_agree_331 : decode cL_agree 331 = .ok (.invokevirtual 8, 3) := by decide +kernel
theorem dL_agree_334 : decode cL_agree 334 = .ok (.aload_n 0, 1) := by decide +kernel
theorem dL_agree_335 : decode cL_agree 335 = .ok (.iload_n 3, 1) := by decide +kernel
theorem dL_agree_336 : decode cL_agree 336 = .ok (.bipush 7, 2) := by decide +kernel
theorem dL_agree_338 : decode cL_agree 338 = .ok (.invokevirtual 8, 3) := by decide +kernel
theorem dL_agree_341 : decode cL_agree 341 = .ok (.if_icmp .ne 19, 3) := by decide +kernel
theorem dL_agree_344 : decode cL_agree 344 = .ok (.iload 7, 2) := by decide +kernel
theorem dL_agree_346 : decode cL_agree 346 = .ok (.aload_n 0, 1) := by decide +kernel
theorem dL_agree_347 : decode cL_agree 347 = .ok (.iload_n 3, 1) := by decide +kernel
theorem dL_agree_348 : decode cL_agree 348 = .ok (.bipush 6, 2) := by decide +kernel
theorem dL_agree_350 : decode cL_agree 350 = .ok (.invokevirtual 8, 3) := by decide +kernel
theorem dL_agree_353 : decode cL_agree 353 = .ok (.if_icmp .le 7, 3) := by decide +kernel
theorem dL_agree_356 : decode cL_agree 356 = .ok (.iconst 1, 1) := by decide +kernel
theorem dL_agree_357 : decode cL_agree 357 = .ok (.goto 4, 3) := by decide +kernel
theorem dL_agree_360 : decode cL_agree 360 = .ok (.iconst 0, 1) := by decide +kernel
theorem dL_agree_361 : decode cL_agree 361 = .ok (.istore 9, 2) := by decide +kernel
theorem dL_agree_363 : decode cL_agree 363 = .ok (.iload 8, 2) := by decide +kernel
theorem dL_agree_365 : decode cL_agree 365 = .ok (.ifCond .eq 13, 3) := by decide +kernel
theorem dL_agree_368 : decode cL_agree 368 = .ok (.iload 9, 2) := by decide +kernel
theorem dL_agree_370 : decode cL_agree 370 = .ok (.ifCond .eq 8, 3) := by decide +kernel
theorem dL_agree_373 : decode cL_agree 373 = .ok (.iload 4, 2) := by decide +kernel
theorem dL_agree_375 : decode cL_agree 375 = .ok (.goto 4, 3) := by decide +kernel
theorem dL_agree_378 : decode cL_agree 378 = .ok (.iload_n 3, 1) := by decide +kernel
theorem dL_agree_379 : decode cL_agree 379 = .ok (.istore_n 3, 1) := by decide +kernel
theorem dL_agree_380 : decode cL_agree 380 = .ok (.iinc 4 1, 3) := by decide +kernel
theorem dL_agree_383 : decode cL_agree 383 = .ok (.goto (-373), 3) := by decide +kernel
theorem dL_agree_386 : decode cL_agree 386 = .ok (.iconst (-1), 1) := by decide +kernel
theorem dL_agree_387 : decode cL_agree 387 = .ok (.istore 4, 2) := by decide +kernel
theorem dL_agree_389 : decode cL_agree 389 = .ok (.iconst 0, 1) := by decide +kernel
theorem dL_agree_390 : decode cL_agree 390 = .ok (.istore 5, 2) := by decide +kernel
theorem dL_agree_392 : decode cL_agree 392 = .ok (.iload 5, 2) := by decide +kernel
theorem dL_agree_394 : decode cL_agree 394 = .ok (.aload_n 0, 1) := by decide +kernel
theorem dL_agree_395 : decode cL_agree 395 = .ok (.iconst 3, 1) := by decide +kernel
theorem dL_agree_396 : decode cL_agree 396 = .ok (.invokevirtual 14, 3) := by decide +kernel
theorem dL_agree_399 : decode cL_agree 399 = .ok (.if_icmp .ge 76, 3) := by decide +kernel
theorem dL_agree_402 : decode cL_agree 402 = .ok (.aload_n 0, 1) := by decide +kernel
theorem dL_agree_403 : decode cL_agree 403 = .ok (.aload_n 0, 1) := by decide +kernel
theorem dL_agree_404 : decode cL_agree 404 = .ok (.iload 5, 2) := by decide +kernel
theorem dL_agree_406 : decode cL_agree 406 = .ok (.iconst 0, 1) := by decide +kernel
theorem dL_agree_407 : decode cL_agree 407 = .ok (.invokevirtual 24, 3) := by decide +kernel
theorem dL_agree_410 : decode cL_agree 410 = .ok (.bipush 8, 2) := by decide +kernel
theorem dL_agree_412 : decode cL_agree 412 = .ok (.invokevirtual 8, 3) := by decide +kernel
theorem dL_agree_415 : decode cL_agree 415 = .ok (.iload 5, 2) := by decide +kernel
theorem dL_agree_417 : decode cL_agree 417 = .ok (.if_icmp .ne 41, 3) := by decide +kernel
theorem dL_agree_420 : decode cL_agree 420 = .ok (.aload_n 0, 1) := by decide +kernel
theorem dL_agree_421 : decode cL_agree 421 = .ok (.iload 5, 2) := by decide +kernel
theorem dL_agree_423 : decode cL_agree 423 = .ok (.iconst 1, 1) := by decide +kernel
theorem dL_agree_424 : decode cL_agree 424 = .ok (.invokevirtual 24, 3) := by decide +kernel
theorem dL_agree_427 : decode cL_agree 427 = .ok (.iload 4, 2) := by decide +kernel
theorem dL_agree_429 : decode cL_agree 429 = .ok (.if_icmp .le 29, 3) := by decide +kernel
theorem dL_agree_432 : decode cL_agree 432 = .ok (.aload_n 0, 1) := by decide +kernel
theorem dL_agree_433 : decode cL_agree 433 = .ok (.iload 5, 2) := by decide +kernel
theorem dL_agree_435 : decode cL_agree 435 = .ok (.iconst 2, 1) := by decide +kernel
theorem dL_agree_436 : decode cL_agree 436 = .ok (.invokevirtual 24, 3) := by decide +kernel
theorem dL_agree_439 : decode cL_agree 439 = .ok (.iconst 1, 1) := by decide +kernel
theorem dL_agree_440 : decode cL_agree 440 = .ok (.if_icmp .lt 18, 3) := by decide +kernel
theorem dL_agree_443 : decode cL_agree 443 = .ok (.aload_n 0, 1) := by decide +kernel
theorem dL_agree_444 : decode cL_agree 444 = .ok (.iload 5, 2) := by decide +kernel
theorem dL_agree_446 : decode cL_agree 446 = .ok (.iconst 3, 1) := by decide +kernel
theorem dL_agree_447 : decode cL_agree 447 = .ok (.invokevirtual 24, 3) := by decide +kernel
theorem dL_agree_450 : decode cL_agree 450 = .ok (.aload_n 0, 1) := by decide +kernel
theorem dL_agree_451 : decode cL_agree 451 = .ok (.iconst 0, 1) := by decide +kernel
theorem dL_agree_452 : decode cL_agree 452 = .ok (.invokevirtual 14, 3) := by decide +kernel
theorem dL_agree_455 : decode cL_agree 455 = .ok (.if_icmp .lt 5, 3) := by decide +kernel
theorem dL_agree_458 : decode cL_agree 458 = .ok (.iconst 0, 1) := by decide +kernel
theorem dL_agree_459 : decode cL_agree 459 = .ok (.ireturn, 1) := by decide +kernel
theorem dL_agree_460 : decode cL_agree 460 = .ok (.aload_n 0, 1) := by decide +kernel
theorem dL_agree_461 : decode cL_agree 461 = .ok (.iload 5, 2) := by decide +kernel
theorem dL_agree_463 : decode cL_agree 463 = .ok (.iconst 1, 1) := by decide +kernel
theorem dL_agree_464 : decode cL_agree 464 = .ok (.invokevirtual 24, 3) := by decide +kernel
theorem dL_agree_467 : decode cL_agree 467 = .ok (.istore 4, 2) := by decide +kernel
theorem dL_agree_469 : decode cL_agree 469 = .ok (.iinc 5 1, 3) := by decide +kernel
theorem dL_agree_472 : decode cL_agree 472 = .ok (.goto (-80), 3) := by decide +kernel
theorem dL_agree_475 : decode cL_agree 475 = .ok (.iload_n 1, 1) := by decide +kernel
theorem dL_agree_476 : decode cL_agree 476 = .ok (.aload_n 0, 1) := by decide +kernel
theorem dL_agree_477 : decode cL_agree 477 = .ok (.iconst 4, 1) := by decide +kernel
theorem dL_agree_478 : decode cL_agree 478 = .ok (.invokevirtual 14, 3) := by decide +kernel
theorem dL_agree_481 : decode cL_agree 481 = .ok (.if_icmp .ne 54, 3) := by decide +kernel
theorem dL_agree_484 : decode cL_agree 484 = .ok (.iload_n 2, 1) := by decide +kernel
theorem dL_agree_485 : decode cL_agree 485 = .ok (.aload_n 0, 1) := by decide +kernel
theorem dL_agree_486 : decode cL_agree 486 = .ok (.bipush 8, 2) := by decide +kernel
theorem dL_agree_488 : decode cL_agree 488 = .ok (.invokevirtual 14, 3) := by decide +kernel
theorem dL_agree_491 : decode cL_agree 491 = .ok (.if_icmp .ne 44, 3) := by decide +kernel
theorem dL_agree_494 : decode cL_agree 494 = .ok (.iload_n 3, 1) := by decide +kernel
theorem dL_agree_495 : decode cL_agree 495 = .ok (.aload_n 0, 1) := by decide +kernel
theorem dL_agree_496 : decode cL_agree 496 = .ok (.iconst 5, 1) := by decide +kernel
theorem dL_agree_497 : decode cL_agree 497 = .ok (.invokevirtual 14, 3) := by decide +kernel
theorem dL_agree_500 : decode cL_agree 500 = .ok (.if_icmp .ne 35, 3) := by decide +kernel
theorem dL_agree_503 : decode cL_agree 503 = .ok (.aload_n 0, 1) := by decide +kernel
theorem dL_agree_504 : decode cL_agree 504 = .ok (.iconst 3, 1) := by decide +kernel
theorem dL_agree_505 : decode cL_agree 505 = .ok (.invokevirtual 14, 3) := by decide +kernel
theorem dL_agree_508 : decode cL_agree 508 = .ok (.aload_n 0, 1) := by decide +kernel
theorem dL_agree_509 : decode cL_agree 509 = .ok (.bipush 7, 2) := by decide +kernel
theorem dL_agree_511 : decode cL_agree 511 = .ok (.invokevirtual 14, 3) := by decide +kernel
theorem dL_agree_514 : decode cL_agree 514 = .ok (.if_icmp .gt 21, 3) := by decide +kernel
theorem dL_agree_517 : decode cL_agree 517 = .ok (.aload_n 0, 1) := by decide +kernel
theorem dL_agree_518 : decode cL_agree 518 = .ok (.aload_n 0, 1) := by decide +kernel
theorem dL_agree_519 : decode cL_agree 519 = .ok (.iconst 3, 1) := by decide +kernel
theorem dL_agree_520 : decode cL_agree 520 = .ok (.invokevirtual 14, 3) := by decide +kernel
theorem dL_agree_523 : decode cL_agree 523 = .ok (.iconst 0, 1) := by decide +kernel
theorem dL_agree_524 : decode cL_agree 524 = .ok (.invokevirtual 24, 3) := by decide +kernel
theorem dL_agree_527 : decode cL_agree 527 = .ok (.iconst (-1), 1) := by decide +kernel
theorem dL_agree_528 : decode cL_agree 528 = .ok (.if_icmp .ne 7, 3) := by decide +kernel
theorem dL_agree_531 : decode cL_agree 531 = .ok (.iconst 1, 1) := by decide +kernel
theorem dL_agree_532 : decode cL_agree 532 = .ok (.goto 4, 3) := by decide +kernel
theorem dL_agree_535 : decode cL_agree 535 = .ok (.iconst 0, 1) := by decide +kernel
theorem dL_agree_536 : decode cL_agree 536 = .ok (.ireturn, 1) := by decide +kernel
theorem dL_isTick_0 : decode cL_isTick 0 = .ok (.aload_n 0, 1) := by decide +kernel
theorem dL_isTick_1 : decode cL_isTick 1 = .ok (.iconst 1, 1) := by decide +kernel
theorem dL_isTick_2 : decode cL_isTick 2 = .ok (.invokevirtual 14, 3) := by decide +kernel
theorem dL_isTick_5 : decode cL_isTick 5 = .ok (.istore_n 1, 1) := by decide +kernel
theorem dL_isTick_6 : decode cL_isTick 6 = .ok (.bipush 12, 2) := by decide +kernel
theorem dL_isTick_8 : decode cL_isTick 8 = .ok (.newarray .int, 2) := by decide +kernel
theorem dL_isTick_10 : decode cL_isTick 10 = .ok (.astore_n 2, 1) := by decide +kernel
theorem dL_isTick_11 : decode cL_isTick 11 = .ok (.bipush 12, 2) := by decide +kernel
theorem dL_isTick_13 : decode cL_isTick 13 = .ok (.newarray .int, 2) := by decide +kernel
theorem dL_isTick_15 : decode cL_isTick 15 = .ok (.astore_n 3, 1) := by decide +kernel
theorem dL_isTick_16 : decode cL_isTick 16 = .ok (.bipush 12, 2) := by decide +kernel
theorem dL_isTick_18 : decode cL_isTick 18 = .ok (.newarray .int, 2) := by decide +kernel
theorem dL_isTick_20 : decode cL_isTick 20 = .ok (.astore 4, 2) := by decide +kernel
theorem dL_isTick_22 : decode cL_isTick 22 = .ok (.bipush 12, 2) := by decide +kernel
theorem dL_isTick_24 : decode cL_isTick 24 = .ok (.newarray .int, 2) := by decide +kernel
theorem dL_isTick_26 : decode cL_isTick 26 = .ok (.astore 5, 2) := by decide +kernel
theorem dL_isTick_28 : decode cL_isTick 28 = .ok (.bipush 12, 2) := by decide +kernel
theorem dL_isTick_30 : decode cL_isTick 30 = .ok (.newarray .int, 2) := by decide +kernel
theorem dL_isTick_32 : decode cL_isTick 32 = .ok (.astore 6, 2) := by decide +kernel
theorem dL_isTick_34 : decode cL_isTick 34 = .ok (.bipush 12, 2) := by decide +kernel
theorem dL_isTick_36 : decode cL_isTick 36 = .ok (.newarray .int, 2) := by decide +kernel
theorem dL_isTick_38 : decode cL_isTick 38 = .ok (.astore 7, 2) := by decide +kernel
theorem dL_isTick_40 : decode cL_isTick 40 = .ok (.bipush 12, 2) := by decide +kernel
theorem dL_isTick_42 : decode cL_isTick 42 = .ok (.newarray .int, 2) := by decide +kernel
theorem dL_isTick_44 : decode cL_isTick 44 = .ok (.astore 8, 2) := by decide +kernel
theorem dL_isTick_46 : decode cL_isTick 46 = .ok (.bipush 12, 2) := by decide +kernel
theorem dL_isTick_48 : decode cL_isTick 48 = .ok (.newarray .int, 2) := by decide +kernel
theorem dL_isTick_50 : decode cL_isTick 50 = .ok (.astore 9, 2) := by decide +kernel
theorem dL_isTick_52 : decode cL_isTick 52 = .ok (.bipush 12, 2) := by decide +kernel
theorem dL_isTick_54 : decode cL_isTick 54 = .ok (.newarray .int, 2) := by decide +kernel
theorem dL_isTick_56 : decode cL_isTick 56 = .ok (.astore 10, 2) := by decide +kernel
theorem dL_isTick_58 : decode cL_isTick 58 = .ok (.bipush 12, 2) := by decide +kernel
theorem dL_isTick_60 : decode cL_isTick 60 = .ok (.newarray .int, 2) := by decide +kernel
theorem dL_isTick_62 : decode cL_isTick 62 = .ok (.astore 11, 2) := by decide +kernel
theorem dL_isTick_64 : decode cL_isTick 64 = .ok (.bipush 12, 2) := by decide +kernel
theorem dL_isTick_66 : decode cL_isTick 66 = .ok (.newarray .int, 2) := by decide +kernel
theorem dL_isTick_68 : decode cL_isTick 68 = .ok (.astore 12, 2) := by decide +kernel
theorem dL_isTick_70 : decode cL_isTick 70 = .ok (.bipush 9, 2) := by decide +kernel
theorem dL_isTick_72 : decode cL_isTick 72 = .ok (.newarray .int, 2) := by decide +kernel
theorem dL_isTick_74 : decode cL_isTick 74 = .ok (.astore 13, 2) := by decide +kernel
theorem dL_isTick_76 : decode cL_isTick 76 = .ok (.bipush 9, 2) := by decide +kernel
theorem dL_isTick_78 : decode cL_isTick 78 = .ok (.newarray .int, 2) := by decide +kernel
theorem dL_isTick_80 : decode cL_isTick 80 = .ok (.astore 14, 2) := by decide +kernel
theorem dL_isTick_82 : decode cL_isTick 82 = .ok (.bipush 9, 2) := by decide +kernel
theorem dL_isTick_84 : decode cL_isTick 84 = .ok (.newarray .int, 2) := by decide +kernel
theorem dL_isTick_86 : decode cL_isTick 86 = .ok (.astore 15, 2) := by decide +kernel
theorem dL_isTick_88 : decode cL_isTick 88 = .ok (.bipush 6, 2) := by decide +kernel
theorem dL_isTick_90 : decode cL_isTick 90 = .ok (.newarray .int, 2) := by decide +kernel
theorem dL_isTick_92 : decode cL_isTick 92 = .ok (.astore 16, 2) := by decide +kernel
theorem dL_isTick_94 : decode cL_isTick 94 = .ok (.iconst 0, 1) := by decide +kernel
theorem dL_isTick_95 : decode cL_isTick 95 = .ok (.istore 17, 2) := by decide +kernel
theorem dL_isTick_97 : decode cL_isTick 97 = .ok (.iload 17, 2) := by decide +kernel
theorem dL_isTick_99 : decode cL_isTick 99 = .ok (.iload_n 1, 1) := by decide +kernel
theorem dL_isTick_100 : decode cL_isTick 100 = .ok (.if_icmp .ge 161, 3) := by decide +kernel
theorem dL_isTick_103 : decode cL_isTick 103 = .ok (.aload_n 2, 1) := by decide +kernel
theorem dL_isTick_104 : decode cL_isTick 104 = .ok (.iload 17, 2) := by decide +kernel
theorem dL_isTick_106 : decode cL_isTick 106 = .ok (.aload_n 0, 1) := by decide +kernel
theorem dL_isTick_107 : decode cL_isTick 107 = .ok (.iload 17, 2) := by decide +kernel
theorem dL_isTick_109 : decode cL_isTick 109 = .ok (.iconst 5, 1) := by decide +kernel
theorem dL_isTick_110 : decode cL_isTick 110 = .ok (.invokevirtual 8, 3) := by decide +kernel
theorem dL_isTick_113 : decode cL_isTick 113 = .ok (.iastore, 1) := by decide +kernel
theorem dL_isTick_114 : decode cL_isTick 114 = .ok (.aload_n 3, 1) := by decide +kernel
theorem dL_isTick_115 : decode cL_isTick 115 = .ok (.iload 17, 2) := by decide +kernel
theorem dL_isTick_117 : decode cL_isTick 117 = .ok (.aload_n 2, 1) := by decide +kernel
theorem dL_isTick_118 : decode cL_isTick 118 = .ok (.iload 17, 2) := by decide +kernel
theorem dL_isTick_120 : decode cL_isTick 120 = .ok (.iaload, 1) := by decide +kernel
theorem dL_isTick_121 : decode cL_isTick 121 = .ok (.iconst 1, 1) := by decide +kernel
theorem dL_isTick_122 : decode cL_isTick 122 = .ok (.if_icmp .ne 14, 3) := by decide +kernel
theorem dL_isTick_125 : decode cL_isTick 125 = .ok (.aload_n 0, 1) := by decide +kernel
theorem dL_isTick_126 : decode cL_isTick 126 = .ok (.iload 17, 2) := by decide +kernel
theorem dL_isTick_128 : decode cL_isTick 128 = .ok (.bipush 6, 2) := by decide +kernel
theorem dL_isTick_130 : decode cL_isTick 130 = .ok (.invokevirtual 8, 3) := by decide +kernel
theorem dL_isTick_133 : decode cL_isTick 133 = .ok (.goto 4, 3) := by decide +kernel
theorem dL_isTick_136 : decode cL_isTick 136 = .ok (.iconst 0, 1) := by decide +kernel
theorem dL_isTick_137 : decode cL_isTick 137 = .ok (.iastore, 1) := by decide +kernel
theorem dL_isTick_138 : decode cL_isTick 138 = .ok (.aload 5, 2) := by decide +kernel
theorem dL_isTick_140 : decode cL_isTick 140 = .ok (.iload 17, 2) := by decide +kernel
theorem dL_isTick_142 : decode cL_isTick 142 = .ok (.aload_n 0, 1) := by decide +kernel
theorem dL_isTick_143 : decode cL_isTick 143 = .ok (.iload 17, 2) := by decide +kernel
theorem dL_isTick_145 : decode cL_isTick 145 = .ok (.bipush 8, 2) := by decide +kernel
theorem dL_isTick_147 : decode cL_isTick 147 = .ok (.invokevirtual 8, 3) := by decide +kernel
theorem dL_isTick_150 : decode cL_isTick 150 = .ok (.iastore, 1) := by decide +kernel
theorem dL_isTick_151 : decode cL_isTick 151 = .ok (.aload 4, 2) := by decide +kernel
theorem dL_isTick_153 : decode cL_isTick 153 = .ok (.iload 17, 2) := by decide +kernel
theorem dL_isTick_155 : decode cL_isTick 155 = .ok (.aload_n 0, 1) := by decide +kernel
theorem dL_isTick_156 : decode cL_isTick 156 = .ok (.iload 17, 2) := by decide +kernel
theorem dL_isTick_158 : decode cL_isTick 158 = .ok (.bipush 9, 2) := by decide +kernel
theorem dL_isTick_160 : decode cL_isTick 160 = .ok (.invokevirtual 8, 3) := by decide +kernel
theorem dL_isTick_163 : decode cL_isTick 163 = .ok (.iastore, 1) := by decide +kernel
theorem dL_isTick_164 : decode cL_isTick 164 = .ok (.aload 6, 2) := by decide +kernel
theorem dL_isTick_166 : decode cL_isTick 166 = .ok (.iload 17, 2) := by decide +kernel
theorem dL_isTick_168 : decode cL_isTick 168 = .ok (.aload_n 0, 1) := by decide +kernel
theorem dL_isTick_169 : decode cL_isTick 169 = .ok (.iload 17, 2) := by decide +kernel
theorem dL_isTick_171 : decode cL_isTick 171 = .ok (.bipush 10, 2) := by decide +kernel
theorem dL_isTick_173 : decode cL_isTick 173 = .ok (.invokevirtual 8, 3) := by decide +kernel
theorem dL_isTick_176 : decode cL_isTick 176 = .ok (.iastore, 1) := by decide +kernel
theorem dL_isTick_177 : decode cL_isTick 177 = .ok (.aload 7, 2) := by decide +kernel
theorem dL_isTick_179 : decode cL_isTick 179 = .ok (.iload 17, 2) := by decide +kernel
theorem dL_isTick_181 : decode cL_isTick 181 = .ok (.aload_n 0, 1) := by decide +kernel
theorem dL_isTick_182 : decode cL_isTick 182 = .ok (.iload 17, 2) := by decide +kernel
theorem dL_isTick_184 : decode cL_isTick 184 = .ok (.bipush 11, 2) := by decide +kernel
theorem dL_isTick_186 : decode cL_isTick 186 = .ok (.invokevirtual 8, 3) := by decide +kernel
theorem dL_isTick_189 : decode cL_isTick 189 = .ok (.iastore, 1) := by decide +kernel
theorem dL_isTick_190 : decode cL_isTick 190 = .ok (.aload 8, 2) := by decide +kernel
theorem dL_isTick_192 : decode cL_isTick 192 = .ok (.iload 17, 2) := by decide +kernel
theorem dL_isTick_194 : decode cL_isTick 194 = .ok (.aload_n 0, 1) := by decide +kernel
theorem dL_isTick_195 : decode cL_isTick 195 = .ok (.iload 17, 2) := by decide +kernel
theorem dL_isTick_197 : decode cL_isTick 197 = .ok (.bipush 12, 2) := by decide +kernel
theorem dL_isTick_199 : decode cL_isTick 199 = .ok (.invokevirtual 8, 3) := by decide +kernel
theorem dL_isTick_202 : decode cL_isTick 202 = .ok (.iastore, 1) := by decide +kernel
theorem dL_isTick_203 : decode cL_isTick 203 = .ok (.aload 9, 2) := by decide +kernel
theorem dL_isTick_205 : decode cL_isTick 205 = .ok (.iload 17, 2) := by decide +kernel
theorem dL_isTick_207 : decode cL_isTick 207 = .ok (.aload_n 0, 1) := by decide +kernel
theorem dL_isTick_208 : decode cL_isTick 208 = .ok (.iload 17, 2) := by decide +kernel
theorem dL_isTick_210 : decode cL_isTick 210 = .ok (.bipush 13, 2) := by decide +kernel
theorem dL_isTick_212 : decode cL_isTick 212 = .ok (.invokevirtual 8, 3) := by decide +kernel
theorem dL_isTick_215 : decode cL_isTick 215 = .ok (.iastore, 1) := by decide +kernel
theorem dL_isTick_216 : decode cL_isTick 216 = .ok (.aload 10, 2) := by decide +kernel
theorem dL_isTick_218 : decode cL_isTick 218 = .ok (.iload 17, 2) := by decide +kernel
theorem dL_isTick_220 : decode cL_isTick 220 = .ok (.aload_n 0, 1) := by decide +kernel
theorem dL_isTick_221 : decode cL_isTick 221 = .ok (.iload 17, 2) := by decide +kernel
theorem dL_isTick_223 : decode cL_isTick 223 = .ok (.bipush 14, 2) := by decide +kernel
theorem dL_isTick_225 : decode cL_isTick 225 = .ok (.invokevirtual 8, 3) := by decide +kernel
theorem dL_isTick_228 : decode cL_isTick 228 = .ok (.iastore, 1) := by decide +kernel
theorem dL_isTick_229 : decode cL_isTick 229 = .ok (.aload 11, 2) := by decide +kernel
theorem dL_isTick_231 : decode cL_isTick 231 = .ok (.iload 17, 2) := by decide +kernel
theorem dL_isTick_233 : decode cL_isTick 233 = .ok (.aload_n 0, 1) := by decide +kernel
theorem dL_isTick_234 : decode cL_isTick 234 = .ok (.iload 17, 2) := by decide +kernel
theorem dL_isTick_236 : decode cL_isTick 236 = .ok (.bipush 15, 2) := by decide +kernel
theorem dL_isTick_238 : decode cL_isTick 238 = .ok (.invokevirtual 8, 3) := by decide +kernel
theorem dL_isTick_241 : decode cL_isTick 241 = .ok (.iastore, 1) := by decide +kernel
theorem dL_isTick_242 : decode cL_isTick 242 = .ok (.aload 12, 2) := by decide +kernel
theorem dL_isTick_244 : decode cL_isTick 244 = .ok (.iload 17, 2) := by decide +kernel
theorem dL_isTick_246 : decode cL_isTick 246 = .ok (.aload_n 0, 1) := by decide +kernel
theorem dL_isTick_247 : decode cL_isTick 247 = .ok (.iload 17, 2) := by decide +kernel
theorem dL_isTick_249 : decode cL_isTick 249 = .ok (.bipush 16, 2) := by decide +kernel
theorem dL_isTick_251 : decode cL_isTick 251 = .ok (.invokevirtual 8, 3) := by decide +kernel
theorem dL_isTick_254 : decode cL_isTick 254 = .ok (.iastore, 1) := by decide +kernel
theorem dL_isTick_255 : decode cL_isTick 255 = .ok (.iinc 17 1, 3) := by decide +kernel
theorem dL_isTick_258 : decode cL_isTick 258 = .ok (.goto (-161), 3) := by decide +kernel
theorem dL_isTick_261 : decode cL_isTick 261 = .ok (.aload_n 0, 1) := by decide +kernel
theorem dL_isTick_262 : decode cL_isTick 262 = .ok (.iconst 3, 1) := by decide +kernel
theorem dL_isTick_263 : decode cL_isTick 263 = .ok (.invokevirtual 14, 3) := by decide +kernel
theorem dL_isTick_266 : decode cL_isTick 266 = .ok (.istore 17, 2) := by decide +kernel
theorem dL_isTick_268 : decode cL_isTick 268 = .ok (.iconst 0, 1) := by decide +kernel
theorem dL_isTick_269 : decode cL_isTick 269 = .ok (.istore 18, 2) := by decide +kernel
theorem dL_isTick_271 : decode cL_isTick 271 = .ok (.iload 18, 2) := by decide +kernel
theorem dL_isTick_273 : decode cL_isTick 273 = .ok (.iload 17, 2) := by decide +kernel
theorem dL_isTick_275 : decode cL_isTick 275 = .ok (.if_icmp .ge 45, 3) := by decide +kernel
theorem dL_isTick_278 : decode cL_isTick 278 = .ok (.aload 13, 2) := by decide +kernel
theorem dL_isTick_280 : decode cL_isTick 280 = .ok (.iload 18, 2) := by decide +kernel
theorem dL_isTick_282 : decode cL_isTick 282 = .ok (.aload_n 0, 1) := by decide +kernel
theorem dL_isTick_283 : decode cL_isTick 283 = .ok (.iload 18, 2) := by decide +kernel
theorem dL_isTick_285 : decode cL_isTick 285 = .ok (.iconst 0, 1) := by decide +kernel
theorem dL_isTick_286 : decode cL_isTick 286 = .ok (.invokevirtual 24, 3) := by decide +kernel
theorem dL_isTick_289 : decode cL_isTick 289 = .ok (.iastore, 1) := by decide +kernel
theorem dL_isTick_290 : decode cL_isTick 290 = .ok (.aload 14, 2) := by decide +kernel
theorem dL_isTick_292 : decode cL_isTick 292 = .ok (.iload 18, 2) := by decide +kernel
theorem dL_isTick_294 : decode cL_isTick 294 = .ok (.aload_n 0, 1) := by decide +kernel
theorem dL_isTick_295 : decode cL_isTick 295 = .ok (.iload 18, 2) := by decide +kernel
theorem dL_isTick_297 : decode cL_isTick 297 = .ok (.iconst 1, 1) := by decide +kernel
theorem dL_isTick_298 : decode cL_isTick 298 = .ok (.invokevirtual 24, 3) := by decide +kernel
theorem dL_isTick_301 : decode cL_isTick 301 = .ok (.iastore, 1) := by decide +kernel
theorem dL_isTick_302 : decode cL_isTick 302 = .ok (.aload 15, 2) := by decide +kernel
theorem dL_isTick_304 : decode cL_isTick 304 = .ok (.iload 18, 2) := by decide +kernel
theorem dL_isTick_306 : decode cL_isTick 306 = .ok (.aload_n 0, 1) := by decide +kernel
theorem dL_isTick_307 : decode cL_isTick 307 = .ok (.iload 18, 2) := by decide +kernel
theorem dL_isTick_309 : decode cL_isTick 309 = .ok (.iconst 2, 1) := by decide +kernel
theorem dL_isTick_310 : decode cL_isTick 310 = .ok (.invokevirtual 24, 3) := by decide +kernel
theorem dL_isTick_313 : decode cL_isTick 313 = .ok (.iastore, 1) := by decide +kernel
theorem dL_isTick_314 : decode cL_isTick 314 = .ok (.iinc 18 1, 3) := by decide +kernel
theorem dL_isTick_317 : decode cL_isTick 317 = .ok (.goto (-46), 3) := by decide +kernel
theorem dL_isTick_320 : decode cL_isTick 320 = .ok (.aload_n 0, 1) := by decide +kernel
theorem dL_isTick_321 : decode cL_isTick 321 = .ok (.iconst 0, 1) := by decide +kernel
theorem dL_isTick_322 : decode cL_isTick 322 = .ok (.invokevirtual 14, 3) := by decide +kernel
theorem dL_isTick_325 : decode cL_isTick 325 = .ok (.istore 18, 2) := by decide +kernel
theorem dL_isTick_327 : decode cL_isTick 327 = .ok (.aload_n 0, 1) := by decide +kernel
theorem dL_isTick_328 : decode cL_isTick 328 = .ok (.bipush 6, 2) := by decide +kernel
theorem dL_isTick_330 : decode cL_isTick 330 = .ok (.invokevirtual 14, 3) := by decide +kernel
theorem dL_isTick_333 : decode cL_isTick 333 = .ok (.istore 19, 2) := by decide +kernel
theorem dL_isTick_335 : decode cL_isTick 335 = .ok (.aload_n 0, 1) := by decide +kernel
theorem dL_isTick_336 : decode cL_isTick 336 = .ok (.bipush 7, 2) := by decide +kernel
theorem dL_isTick_338 : decode cL_isTick 338 = .ok (.invokevirtual 14, 3) := by decide +kernel
theorem dL_isTick_341 : decode cL_isTick 341 = .ok (.istore 20, 2) := by decide +kernel
theorem dL_isTick_343 : decode cL_isTick 343 = .ok (.aload_n 0, 1) := by decide +kernel
theorem dL_isTick_344 : decode cL_isTick 344 = .ok (.bipush 9, 2) := by decide +kernel
theorem dL_isTick_346 : decode cL_isTick 346 = .ok (.invokevirtual 14, 3) := by decide +kernel
theorem dL_isTick_349 : decode cL_isTick 349 = .ok (.istore 21, 2) := by decide +kernel
theorem dL_isTick_351 : decode cL_isTick 351 = .ok (.iconst 0, 1) := by decide +kernel
theorem dL_isTick_352 : decode cL_isTick 352 = .ok (.istore 22, 2) := by decide +kernel
theorem dL_isTick_354 : decode cL_isTick 354 = .ok (.iload 22, 2) := by decide +kernel
theorem dL_isTick_356 : decode cL_isTick 356 = .ok (.aload_n 0, 1) := by decide +kernel
theorem dL_isTick_357 : decode cL_isTick 357 = .ok (.iconst 2, 1) := by decide +kernel
theorem dL_isTick_358 : decode cL_isTick 358 = .ok (.invokevirtual 14, 3) := by decide +kernel
theorem dL_isTick_361 : decode cL_isTick 361 = .ok (.if_icmp .ge 114, 3) := by decide +kernel
theorem dL_isTick_364 : decode cL_isTick 364 = .ok (.aload 16, 2) := by decide +kernel
theorem dL_isTick_366 : decode cL_isTick 366 = .ok (.iload 22, 2) := by decide +kernel
theorem dL_isTick_368 : decode cL_isTick 368 = .ok (.aload_n 0, 1) := by decide +kernel
theorem dL_isTick_369 : decode cL_isTick 369 = .ok (.iload 22, 2) := by decide +kernel
theorem dL_isTick_371 : decode cL_isTick 371 = .ok (.iconst 2, 1) := by decide +kernel
theorem dL_isTick_372 : decode cL_isTick 372 = .ok (.invokevirtual 27, 3) := by decide +kernel
theorem dL_isTick_375 : decode cL_isTick 375 = .ok (.iastore, 1) := by decide +kernel
theorem dL_isTick_376 : decode cL_isTick 376 = .ok (.aload 16, 2) := by decide +kernel
theorem dL_isTick_378 : decode cL_isTick 378 = .ok (.iload 22, 2) := by decide +kernel
theorem dL_isTick_380 : decode cL_isTick 380 = .ok (.iaload, 1) := by decide +kernel
theorem dL_isTick_381 : decode cL_isTick 381 = .ok (.iload 18, 2) := by decide +kernel
theorem dL_isTick_383 : decode cL_isTick 383 = .ok (.if_icmp .ne 86, 3) := by decide +kernel
theorem dL_isTick_386 : decode cL_isTick 386 = .ok (.aload_n 0, 1) := by decide +kernel
theorem dL_isTick_387 : decode cL_isTick 387 = .ok (.iload 22, 2) := by decide +kernel
theorem dL_isTick_389 : decode cL_isTick 389 = .ok (.iconst 0, 1) := by decide +kernel
theorem dL_isTick_390 : decode cL_isTick 390 = .ok (.invokevirtual 27, 3) := by decide +kernel
theorem dL_isTick_393 : decode cL_isTick 393 = .ok (.istore 23, 2) := by decide +kernel
theorem dL_isTick_395 : decode cL_isTick 395 = .ok (.aload 6, 2) := by decide +kernel
theorem dL_isTick_397 : decode cL_isTick 397 = .ok (.iload 23, 2) := by decide +kernel
theorem dL_isTick_399 : decode cL_isTick 399 = .ok (.dup2, 1) := by decide +kernel
theorem dL_isTick_400 : decode cL_isTick 400 = .ok (.iaload, 1) := by decide +kernel
theorem dL_isTick_401 : decode cL_isTick 401 = .ok (.iconst 1, 1) := by decide +kernel
theorem dL_isTick_402 : decode cL_isTick 402 = .ok (.iadd, 1) := by decide +kernel
theorem dL_isTick_403 : decode cL_isTick 403 = .ok (.iastore, 1) := by decide +kernel
theorem dL_isTick_404 : decode cL_isTick 404 = .ok (.aload_n 2, 1) := by decide +kernel
theorem dL_isTick_405 : decode cL_isTick 405 = .ok (.iload 23, 2) := by decide +kernel
theorem dL_isTick_407 : decode cL_isTick 407 = .ok (.iaload, 1) := by decide +kernel
theorem dL_isTick_408 : decode cL_isTick 408 = .ok (.iconst 1, 1) := by decide +kernel
theorem dL_isTick_409 : decode cL_isTick 409 = .ok (.if_icmp .eq 23, 3) := by decide +kernel
theorem dL_isTick_412 : decode cL_isTick 412 = .ok (.aload_n 0, 1) := by decide +kernel
theorem dL_isTick_413 : decode cL_isTick 413 = .ok (.iload 23, 2) := by decide +kernel
theorem dL_isTick_415 : decode cL_isTick 415 = .ok (.iconst 4, 1) := by decide +kernel
theorem dL_isTick_416 : decode cL_isTick 416 = .ok (.invokevirtual 8, 3) := by decide +kernel
theorem dL_isTick_419 : decode cL_isTick 419 = .ok (.iconst 1, 1) := by decide +kernel
theorem dL_isTick_420 : decode cL_isTick 420 = .ok (.if_icmp .ne 24, 3) := by decide +kernel
theorem dL_isTick_423 : decode cL_isTick 423 = .ok (.aload_n 0, 1) := by decide +kernel
theorem dL_isTick_424 : decode cL_isTick 424 = .ok (.bipush 17, 2) := by decide +kernel
theorem dL_isTick_426 : decode cL_isTick 426 = .ok (.invokevirtual 14, 3) := by decide +kernel
theorem dL_isTick_429 : decode cL_isTick 429 = .ok (.ifCond .ne 15, 3) := by decide +kernel
theorem dL_isTick_432 : decode cL_isTick 432 = .ok (.aload 7, 2) := by decide +kernel
theorem dL_isTick_434 : decode cL_isTick 434 = .ok (.iload 23, 2) := by decide +kernel
theorem dL_isTick_436 : decode cL_isTick 436 = .ok (.dup2, 1) := by decide +kernel
theorem dL_isTick_437 : decode cL_isTick 437 = .ok (.iaload, 1) := by decide +kernel
theorem dL_isTick_438 : decode cL_isTick 438 = .ok (.iconst 1, 1) := by decide +kernel
theorem dL_isTick_439 : decode cL_isTick 439 = .ok (.iadd, 1) := by decide +kernel
theorem dL_isTick_440 : decode cL_isTick 440 = .ok (.iastore, 1) := by decide +kernel
theorem dL_isTick_441 : decode cL_isTick 441 = .ok (.goto 13, 3) := by decide +kernel
theorem dL_isTick_444 : decode cL_isTick 444 = .ok (.aload_n 2, 1) := by decide +kernel
theorem dL_isTick_445 : decode cL_isTick 445 = .ok (.iload 23, 2) := by decide +kernel
theorem dL_isTick_447 : decode cL_isTick 447 = .ok (.iconst 1, 1) := by decide +kernel
theorem dL_isTick_448 : decode cL_isTick 448 = .ok (.iastore, 1) := by decide +kernel
theorem dL_isTick_449 : decode cL_isTick 449 = .ok (.aload_n 3, 1) := by decide +kernel
theorem dL_isTick_450 : decode cL_isTick 450 = .ok (.iload 23, 2) := by decide +kernel
theorem dL_isTick_452 : decode cL_isTick 452 = .ok (.iconst 0, 1) := by decide +kernel
theorem dL_isTick_453 : decode cL_isTick 453 = .ok (.iastore, 1) := by decide +kernel
theorem dL_isTick_454 : decode cL_isTick 454 = .ok (.aload 16, 2) := by decide +kernel
theorem dL_isTick_456 : decode cL_isTick 456 = .ok (.iload 22, 2) := by decide +kernel
theorem dL_isTick_458 : decode cL_isTick 458 = .ok (.dup2, 1) := by decide +kernel
theorem dL_isTick_459 : decode cL_isTick 459 = .ok (.iaload, 1) := by decide +kernel
theorem dL_isTick_460 : decode cL_isTick 460 = .ok (.aload_n 0, 1) := by decide +kernel
theorem dL_isTick_461 : decode cL_isTick 461 = .ok (.iload 22, 2) := by decide +kernel
theorem dL_isTick_463 : decode cL_isTick 463 = .ok (.iconst 1, 1) := by decide +kernel
theorem dL_isTick_464 : decode cL_isTick 464 = .ok (.invokevirtual 27, 3) := by decide +kernel
theorem dL_isTick_467 : decode cL_isTick 467 = .ok (.iadd, 1) := by decide +kernel
theorem dL_isTick_468 : decode cL_isTick 468 = .ok (.iastore, 1) := by decide +kernel
theorem dL_isTick_469 : decode cL_isTick 469 = .ok (.iinc 22 1, 3) := by decide +kernel
theorem dL_isTick_472 : decode cL_isTick 472 = .ok (.goto (-118), 3) := by decide +kernel
theorem dL_isTick_475 : decode cL_isTick 475 = .ok (.iconst (-1), 1) := by decide +kernel
theorem dL_isTick_476 : decode cL_isTick 476 = .ok (.istore 22, 2) := by decide +kernel
theorem dL_isTick_478 : decode cL_isTick 478 = .ok (.iconst 0, 1) := by decide +kernel
theorem dL_isTick_479 : decode cL_isTick 479 = .ok (.istore 23, 2) := by decide +kernel
theorem dL_isTick_481 : decode cL_isTick 481 = .ok (.iload 23, 2) := by decide +kernel
theorem dL_isTick_483 : decode cL_isTick 483 = .ok (.iload_n 1, 1) := by decide +kernel
theorem dL_isTick_484 : decode cL_isTick 484 = .ok (.if_icmp .ge 118, 3) := by decide +kernel
theorem dL_isTick_487 : decode cL_isTick 487 = .ok (.aload_n 0, 1) := by decide +kernel
theorem dL_isTick_488 : decode cL_isTick 488 = .ok (.iload 23, 2) := by decide +kernel
theorem dL_isTick_490 : decode cL_isTick 490 = .ok (.aload_n 2, 1) := by decide +kernel
theorem dL_isTick_491 : decode cL_isTick 491 = .ok (.iload 23, 2) := by decide +kernel
theorem dL_isTick_493 : decode cL_isTick 493 = .ok (.iaload, 1) := by decide +kernel
theorem dL_isTick_494 : decode cL_isTick 494 = .ok (.aload_n 3, 1) := by decide +kernel
theorem dL_isTick_495 : decode cL_isTick 495 = .ok (.iload 23, 2) := by decide +kernel
theorem dL_isTick_497 : decode cL_isTick 497 = .ok (.iaload, 1) := by decide +kernel
theorem dL_isTick_498 : decode cL_isTick 498 = .ok (.invokestatic 18, 3) := by decide +kernel
theorem dL_isTick_501 : decode cL_isTick 501 = .ok (.istore 24, 2) := by decide +kernel
theorem dL_isTick_503 : decode cL_isTick 503 = .ok (.aload_n 2, 1) := by decide +kernel
theorem dL_isTick_504 : decode cL_isTick 504 = .ok (.iload 23, 2) := by decide +kernel
theorem dL_isTick_506 : decode cL_isTick 506 = .ok (.iaload, 1) := by decide +kernel
theorem dL_isTick_507 : decode cL_isTick 507 = .ok (.iconst 1, 1) := by decide +kernel
theorem dL_isTick_508 : decode cL_isTick 508 = .ok (.if_icmp .ne 88, 3) := by decide +kernel
theorem dL_isTick_511 : decode cL_isTick 511 = .ok (.aload 5, 2) := by decide +kernel
theorem dL_isTick_513 : decode cL_isTick 513 = .ok (.iload 23, 2) := by decide +kernel
theorem dL_isTick_515 : decode cL_isTick 515 = .ok (.iaload, 1) := by decide +kernel
theorem dL_isTick_516 : decode cL_isTick 516 = .ok (.ifCond .ge 80, 3) := by decide +kernel
theorem dL_isTick_519 : decode cL_isTick 519 = .ok (.aload_n 0, 1) := by decide +kernel
theorem dL_isTick_520 : decode cL_isTick 520 = .ok (.iload 23, 2) := by decide +kernel
theorem dL_isTick_522 : decode cL_isTick 522 = .ok (.iconst 4, 1) := by decide +kernel
theorem dL_isTick_523 : decode cL_isTick 523 = .ok (.invokevirtual 8, 3) := by decide +kernel
theorem dL_isTick_526 : decode cL_isTick 526 = .ok (.ifCond .ne 70, 3) := by decide +kernel
theorem dL_isTick_529 : decode cL_isTick 529 = .ok (.iload 24, 2) := by decide +kernel
theorem dL_isTick_531 : decode cL_isTick 531 = .ok (.aload_n 0, 1) := by decide +kernel
theorem dL_isTick_532 : decode cL_isTick 532 = .ok (.bipush 18, 2) := by decide +kernel
theorem dL_isTick_534 : decode cL_isTick 534 = .ok (.invokevirtual 14, 3) := by decide +kernel
theorem dL_isTick_537 : decode cL_isTick 537 = .ok (.if_icmp .lt 59, 3) := by decide +kernel
theorem dL_isTick_540 : decode cL_isTick 540 = .ok (.iload 22, 2) := by decide +kernel
theorem dL_isTick_542 : decode cL_isTick 542 = .ok (.ifCond .ge 7, 3) := by decide +kernel
theorem dL_isTick_545 : decode cL_isTick 545 = .ok (.iconst (-1), 1) := by decide +kernel
theorem dL_isTick_546 : decode cL_isTick 546 = .ok (.goto 14, 3) := by decide +kernel
theorem dL_isTick_549 : decode cL_isTick 549 = .ok (.aload_n 0, 1) := by decide +kernel
theorem dL_isTick_550 : decode cL_isTick 550 = .ok (.iload 22, 2) := by decide +kernel
theorem dL_isTick_552 : decode cL_isTick 552 = .ok (.iconst 1, 1) := by decide +kernel
theorem dL_isTick_553 : decode cL_isTick 553 = .ok (.aload_n 3, 1) := by decide +kernel
theorem dL_isTick_554 : decode cL_isTick 554 = .ok (.iload 22, 2) := by decide +kernel
theorem dL_isTick_556 : decode cL_isTick 556 = .ok (.iaload, 1) := by decide +kernel
theorem dL_isTick_557 : decode cL_isTick 557 = .ok (.invokestatic 18, 3) := by decide +kernel
theorem dL_isTick_560 : decode cL_isTick 560 = .ok (.istore 25, 2) := by decide +kernel
theorem dL_isTick_562 : decode cL_isTick 562 = .ok (.iload 24, 2) := by decide +kernel
theorem dL_isTick_564 : decode cL_isTick 564 = .ok (.iload 25, 2) := by decide +kernel
theorem dL_isTick_566 : decode cL_isTick 566 = .ok (.if_icmp .gt 21, 3) := by decide +kernel
theorem dL_isTick_569 : decode cL_isTick 569 = .ok (.iload 24, 2) := by decide +kernel
theorem dL_isTick_571 : decode cL_isTick 571 = .ok (.iload 25, 2) := by decide +kernel
theorem dL_isTick_573 : decode cL_isTick 573 = .ok (.if_icmp .ne 19, 3) := by decide +kernel
theorem dL_isTick_576 : decode cL_isTick 576 = .ok (.aload_n 3, 1) := by decide +kernel
theorem dL_isTick_577 : decode cL_isTick 577 = .ok (.iload 23, 2) := by decide +kernel
theorem dL_isTick_579 : decode cL_isTick 579 = .ok (.iaload, 1) := by decide +kernel
theorem dL_isTick_580 : decode cL_isTick 580 = .ok (.aload_n 3, 1) := by decide +kernel
theorem dL_isTick_581 : decode cL_isTick 581 = .ok (.iload 22, 2) := by decide +kernel
theorem dL_isTick_583 : decode cL_isTick 583 = .ok (.iaload, 1) := by decide +kernel
theorem dL_isTick_584 : decode cL_isTick 584 = .ok (.if_icmp .le 8, 3) := by decide +kernel
theorem dL_isTick_587 : decode cL_isTick 587 = .ok (.iload 23, 2) := by decide +kernel
theorem dL_isTick_589 : decode cL_isTick 589 = .ok (.goto 5, 3) := by decide +kernel
theorem dL_isTick_592 : decode cL_isTick 592 = .ok (.iload 22, 2) := by decide +kernel
theorem dL_isTick_594 : decode cL_isTick 594 = .ok (.istore 22, 2) := by decide +kernel
theorem dL_isTick_596 : decode cL_isTick 596 = .ok (.iinc 23 1, 3) := by decide +kernel
theorem dL_isTick_599 : decode cL_isTick 599 = .ok (.goto (-118), 3) := by decide +kernel
theorem dL_isTick_602 : decode cL_isTick 602 = .ok (.iload 22, 2) := by decide +kernel
theorem dL_isTick_604 : decode cL_isTick 604 = .ok (.ifCond .lt 222, 3) := by decide +kernel
theorem dL_isTick_607 : decode cL_isTick 607 = .ok (.iload 17, 2) := by decide +kernel
theorem dL_isTick_609 : decode cL_isTick 609 = .ok (.aload_n 0, 1) := by decide +kernel
theorem dL_isTick_610 : decode cL_isTick 610 = .ok (.bipush 15, 2) := by decide +kernel
theorem dL_isTick_612 : decode cL_isTick 612 = .ok (.invokevirtual 14, 3) := by decide +kernel
theorem dL_isTick_615 : decode cL_isTick 615 = .ok (.if_icmp .ge 211, 3) := by decide +kernel
theorem dL_isTick_618 : decode cL_isTick 618 = .ok (.iload 17, 2) := by decide +kernel
theorem dL_isTick_620 : decode cL_isTick 620 = .ok (.ifCond .eq 31, 3) := by decide +kernel
theorem dL_isTick_623 : decode cL_isTick 623 = .ok (.aload_n 0, 1) := by decide +kernel
theorem dL_isTick_624 : decode cL_isTick 624 = .ok (.iload 22, 2) := by decide +kernel
theorem dL_isTick_626 : decode cL_isTick 626 = .ok (.iconst 1, 1) := by decide +kernel
theorem dL_isTick_627 : decode cL_isTick 627 = .ok (.aload_n 3, 1) := by decide +kernel
theorem dL_isTick_628 : decode cL_isTick 628 = .ok (.iload 22, 2) := by decide +kernel
theorem dL_isTick_630 : decode cL_isTick 630 = .ok (.iaload, 1) := by decide +kernel
theorem dL_isTick_631 : decode cL_isTick 631 = .ok (.invokestatic 18, 3) := by decide +kernel
theorem dL_isTick_634 : decode cL_isTick 634 = .ok (.aload 14, 2) := by decide +kernel
theorem dL_isTick_636 : decode cL_isTick 636 = .ok (.iload 17, 2) := by decide +kernel
theorem dL_isTick_638 : decode cL_isTick 638 = .ok (.iconst 1, 1) := by decide +kernel
theorem dL_isTick_639 : decode cL_isTick 639 = .ok (.isub, 1) := by decide +kernel
theorem dL_isTick_640 : decode cL_isTick 640 = .ok (.iaload, 1) := by decide +kernel
theorem dL_isTick_641 : decode cL_isTick 641 = .ok (.aload_n 0, 1) := by decide +kernel
theorem dL_isTick_642 : decode cL_isTick 642 = .ok (.bipush 14, 2) := by decide +kernel
theorem dL_isTick_644 : decode cL_isTick 644 = .ok (.invokevirtual 14, 3) := by decide +kernel
theorem dL_isTick_647 : decode cL_isTick 647 = .ok (.iadd, 1) := by decide +kernel
theorem dL_isTick_648 : decode cL_isTick 648 = .ok (.if_icmp .lt 178, 3) := by decide +kernel
theorem dL_isTick_651 : decode cL_isTick 651 = .ok (.aload 13, 2) := by decide +kernel
theorem dL_isTick_653 : decode cL_isTick 653 = .ok (.iload 17, 2) := by decide +kernel
theorem dL_isTick_655 : decode cL_isTick 655 = .ok (.iload 22, 2) := by decide +kernel
theorem dL_isTick_657 : decode cL_isTick 657 = .ok (.iastore, 1) := by decide +kernel
theorem dL_isTick_658 : decode cL_isTick 658 = .ok (.aload 14, 2) := by decide +kernel
theorem dL_isTick_660 : decode cL_isTick 660 = .ok (.iload 17, 2) := by decide +kernel
theorem dL_isTick_662 : decode cL_isTick 662 = .ok (.aload_n 0, 1) := by decide +kernel
theorem dL_isTick_663 : decode cL_isTick 663 = .ok (.iload 22, 2) := by decide +kernel
theorem dL_isTick_665 : decode cL_isTick 665 = .ok (.iconst 1, 1) := by decide +kernel
theorem dL_isTick_666 : decode cL_isTick 666 = .ok (.aload_n 3, 1) := by decide +kernel
theorem dL_isTick_667 : decode cL_isTick 667 = .ok (.iload 22, 2) := by decide +kernel
theorem dL_isTick_669 : decode cL_isTick 669 = .ok (.iaload, 1) := by decide +kernel
theorem dL_isTick_670 : decode cL_isTick 670 = .ok (.invokestatic 18, 3) := by decide +kernel
theorem dL_isTick_673 : decode cL_isTick 673 = .ok (.iastore, 1) := by decide +kernel
theorem dL_isTick_674 : decode cL_isTick 674 = .ok (.aload 15, 2) := by decide +kernel
theorem dL_isTick_676 : decode cL_isTick 676 = .ok (.iload 17, 2) := by decide +kernel
theorem dL_isTick_678 : decode cL_isTick 678 = .ok (.aload_n 0, 1) := by decide +kernel
theorem dL_isTick_679 : decode cL_isTick 679 = .ok (.iload 22, 2) := by decide +kernel
theorem dL_isTick_681 : decode cL_isTick 681 = .ok (.iconst 1, 1) := by decide +kernel
theorem dL_isTick_682 : decode cL_isTick 682 = .ok (.invokevirtual 8, 3) := by decide +kernel
theorem dL_isTick_685 : decode cL_isTick 685 = .ok (.aload_n 0, 1) := by decide +kernel
theorem dL_isTick_686 : decode cL_isTick 686 = .ok (.bipush 16, 2) := by decide +kernel
theorem dL_isTick_688 : decode cL_isTick 688 = .ok (.invokevirtual 14, 3) := by decide +kernel
theorem dL_isTick_691 : decode cL_isTick 691 = .ok (.iadd, 1) := by decide +kernel
theorem dL_isTick_692 : decode cL_isTick 692 = .ok (.iastore, 1) := by decide +kernel
theorem dL_isTick_693 : decode cL_isTick 693 = .ok (.iload 21, 2) := by decide +kernel
theorem dL_isTick_695 : decode cL_isTick 695 = .ok (.iload 17, 2) := by decide +kernel
theorem dL_isTick_697 : decode cL_isTick 697 = .ok (.ifCond .le 7, 3) := by decide +kernel
theorem dL_isTick_700 : decode cL_isTick 700 = .ok (.iconst 1, 1) := by decide +kernel
theorem dL_isTick_701 : decode cL_isTick 701 = .ok (.goto 4, 3) := by decide +kernel
theorem dL_isTick_704 : decode cL_isTick 704 = .ok (.iconst 0, 1) := by decide +kernel
theorem dL_isTick_705 : decode cL_isTick 705 = .ok (.iadd, 1) := by decide +kernel
theorem dL_isTick_706 : decode cL_isTick 706 = .ok (.istore 21, 2) := by decide +kernel
theorem dL_isTick_708 : decode cL_isTick 708 = .ok (.aload 5, 2) := by decide +kernel
theorem dL_isTick_710 : decode cL_isTick 710 = .ok (.iload 22, 2) := by decide +kernel
theorem dL_isTick_712 : decode cL_isTick 712 = .ok (.iload 17, 2) := by decide +kernel
theorem dL_isTick_714 : decode cL_isTick 714 = .ok (.iastore, 1) := by decide +kernel
theorem dL_isTick_715 : decode cL_isTick 715 = .ok (.iinc 17 1, 3) := by decide +kernel
theorem dL_isTick_718 : decode cL_isTick 718 = .ok (.iload 17, 2) := by decide +kernel
theorem dL_isTick_720 : decode cL_isTick 720 = .ok (.iload 20, 2) := by decide +kernel
theorem dL_isTick_722 : decode cL_isTick 722 = .ok (.if_icmp .le 8, 3) := by decide +kernel
theorem dL_isTick_725 : decode cL_isTick 725 = .ok (.iload 17, 2) := by decide +kernel
theorem dL_isTick_727 : decode cL_isTick 727 = .ok (.goto 5, 3) := by decide +kernel
theorem dL_isTick_730 : decode cL_isTick 730 = .ok (.iload 20, 2) := by decide +kernel
theorem dL_isTick_732 : decode cL_isTick 732 = .ok (.istore 20, 2) := by decide +kernel
theorem dL_isTick_734 : decode cL_isTick 734 = .ok (.aload 8, 2) := by decide +kernel
theorem dL_isTick_736 : decode cL_isTick 736 = .ok (.iload 22, 2) := by decide +kernel
theorem dL_isTick_738 : decode cL_isTick 738 = .ok (.dup2, 1) := by decide +kernel
theorem dL_isTick_739 : decode cL_isTick 739 = .ok (.iaload, 1) := by decide +kernel
theorem dL_isTick_740 : decode cL_isTick 740 = .ok (.iconst 1, 1) := by decide +kernel
theorem dL_isTick_741 : decode cL_isTick 741 = .ok (.iadd, 1) := by decide +kernel
theorem dL_isTick_742 : decode cL_isTick 742 = .ok (.iastore, 1) := by decide +kernel
theorem dL_isTick_743 : decode cL_isTick 743 = .ok (.aload 11, 2) := by decide +kernel
theorem dL_isTick_745 : decode cL_isTick 745 = .ok (.iload 22, 2) := by decide +kernel
theorem dL_isTick_747 : decode cL_isTick 747 = .ok (.dup2, 1) := by decide +kernel
theorem dL_isTick_748 : decode cL_isTick 748 = .ok (.iaload, 1) := by decide +kernel
theorem dL_isTick_749 : decode cL_isTick 749 = .ok (.aload_n 3, 1) := by decide +kernel
theorem dL_isTick_750 : decode cL_isTick 750 = .ok (.iload 22, 2) := by decide +kernel
theorem dL_isTick_752 : decode cL_isTick 752 = .ok (.iaload, 1) := by decide +kernel
theorem dL_isTick_753 : decode cL_isTick 753 = .ok (.iadd, 1) := by decide +kernel
theorem dL_isTick_754 : decode cL_isTick 754 = .ok (.iastore, 1) := by decide +kernel
theorem dL_isTick_755 : decode cL_isTick 755 = .ok (.aload 10, 2) := by decide +kernel
theorem dL_isTick_757 : decode cL_isTick 757 = .ok (.iload 22, 2) := by decide +kernel
theorem dL_isTick_759 : decode cL_isTick 759 = .ok (.aload_n 3, 1) := by decide +kernel
theorem dL_isTick_760 : decode cL_isTick 760 = .ok (.iload 22, 2) := by decide +kernel
theorem dL_isTick_762 : decode cL_isTick 762 = .ok (.iaload, 1) := by decide +kernel
theorem dL_isTick_763 : decode cL_isTick 763 = .ok (.aload 10, 2) := by decide +kernel
theorem dL_isTick_765 : decode cL_isTick 765 = .ok (.iload 22, 2) := by decide +kernel
theorem dL_isTick_767 : decode cL_isTick 767 = .ok (.iaload, 1) := by decide +kernel
theorem dL_isTick_768 : decode cL_isTick 768 = .ok (.if_icmp .le 10, 3) := by decide +kernel
theorem dL_isTick_771 : decode cL_isTick 771 = .ok (.aload_n 3, 1) := by decide +kernel
theorem dL_isTick_772 : decode cL_isTick 772 = .ok (.iload 22, 2) := by decide +kernel
theorem dL_isTick_774 : decode cL_isTick 774 = .ok (.iaload, 1) := by decide +kernel
theorem dL_isTick_775 : decode cL_isTick 775 = .ok (.goto 8, 3) := by decide +kernel
theorem dL_isTick_778 : decode cL_isTick 778 = .ok (.aload 10, 2) := by decide +kernel
theorem dL_isTick_780 : decode cL_isTick 780 = .ok (.iload 22, 2) := by decide +kernel
theorem dL_isTick_782 : decode cL_isTick 782 = .ok (.iaload, 1) := by decide +kernel
theorem dL_isTick_783 : decode cL_isTick 783 = .ok (.iastore, 1) := by decide +kernel
theorem dL_isTick_784 : decode cL_isTick 784 = .ok (.aload 12, 2) := by decide +kernel
theorem dL_isTick_786 : decode cL_isTick 786 = .ok (.iload 22, 2) := by decide +kernel
theorem dL_isTick_788 : decode cL_isTick 788 = .ok (.dup2, 1) := by decide +kernel
theorem dL_isTick_789 : decode cL_isTick 789 = .ok (.iaload, 1) := by decide +kernel
theorem dL_isTick_790 : decode cL_isTick 790 = .ok (.aload_n 0, 1) := by decide +kernel
theorem dL_isTick_791 : decode cL_isTick 791 = .ok (.iload 22, 2) := by decide +kernel
theorem dL_isTick_793 : decode cL_isTick 793 = .ok (.iconst 2, 1) := by decide +kernel
theorem dL_isTick_794 : decode cL_isTick 794 = .ok (.invokevirtual 8, 3) := by decide +kernel
theorem dL_isTick_797 : decode cL_isTick 797 = .ok (.ifCond .le 21, 3) := by decide +kernel
theorem dL_isTick_800 : decode cL_isTick 800 = .ok (.aload_n 3, 1) := by decide +kernel
theorem dL_isTick_801 : decode cL_isTick 801 = .ok (.iload 22, 2) := by decide +kernel
theorem dL_isTick_803 : decode cL_isTick 803 = .ok (.iaload, 1) := by decide +kernel
theorem dL_isTick_804 : decode cL_isTick 804 = .ok (.aload_n 0, 1) := by decide +kernel
theorem dL_isTick_805 : decode cL_isTick 805 = .ok (.iload 22, 2) := by decide +kernel
theorem dL_isTick_807 : decode cL_isTick 807 = .ok (.iconst 2, 1) := by decide +kernel
theorem dL_isTick_808 : decode cL_isTick 808 = .ok (.invokevirtual 8, 3) := by decide +kernel
theorem dL_isTick_811 : decode cL_isTick 811 = .ok (.if_icmp .le 7, 3) := by decide +kernel
theorem dL_isTick_814 : decode cL_isTick 814 = .ok (.iconst 1, 1) := by decide +kernel
theorem dL_isTick_815 : decode cL_isTick 815 = .ok (.goto 4, 3) := by decide +kernel
theorem dL_isTick_818 : decode cL_isTick 818 = .ok (.iconst 0, 1) := by decide +kernel
theorem dL_isTick_819 : decode cL_isTick 819 = .ok (.iadd, 1) := by decide +kernel
theorem dL_isTick_820 : decode cL_isTick 820 = .ok (.iastore, 1) := by decide +kernel
theorem dL_isTick_821 : decode cL_isTick 821 = .ok (.aload_n 2, 1) := by decide +kernel
theorem dL_isTick_822 : decode cL_isTick 822 = .ok (.iload 22, 2) := by decide +kernel
theorem dL_isTick_824 : decode cL_isTick 824 = .ok (.iconst 0, 1) := by decide +kernel
theorem dL_isTick_825 : decode cL_isTick 825 = .ok (.iastore, 1) := by decide +kernel
theorem dL_isTick_826 : decode cL_isTick 826 = .ok (.iload 17, 2) := by decide +kernel
theorem dL_isTick_828 : decode cL_isTick 828 = .ok (.ifCond .le 129, 3) := by decide +kernel
theorem dL_isTick_831 : decode cL_isTick 831 = .ok (.iinc 19 1, 3) := by decide +kernel
theorem dL_isTick_834 : decode cL_isTick 834 = .ok (.aload 15, 2) := by decide +kernel
theorem dL_isTick_836 : decode cL_isTick 836 = .ok (.iload 17, 2) := by decide +kernel
theorem dL_isTick_838 : decode cL_isTick 838 = .ok (.iconst 1, 1) := by decide +kernel
theorem dL_isTick_839 : decode cL_isTick 839 = .ok (.isub, 1) := by decide +kernel
theorem dL_isTick_840 : decode cL_isTick 840 = .ok (.dup2, 1) := by decide +kernel
theorem dL_isTick_841 : decode cL_isTick 841 = .ok (.iaload, 1) := by decide +kernel
theorem dL_isTick_842 : decode cL_isTick 842 = .ok (.iconst 1, 1) := by decide +kernel
theorem dL_isTick_843 : decode cL_isTick 843 = .ok (.isub, 1) := by decide +kernel
theorem dL_isTick_844 : decode cL_isTick 844 = .ok (.iastore, 1) := by decide +kernel
theorem dL_isTick_845 : decode cL_isTick 845 = .ok (.aload 15, 2) := by decide +kernel
theorem dL_isTick_847 : decode cL_isTick 847 = .ok (.iload 17, 2) := by decide +kernel
theorem dL_isTick_849 : decode cL_isTick 849 = .ok (.iconst 1, 1) := by decide +kernel
theorem dL_isTick_850 : decode cL_isTick 850 = .ok (.isub, 1) := by decide +kernel
theorem dL_isTick_851 : decode cL_isTick 851 = .ok (.iaload, 1) := by decide +kernel
theorem dL_isTick_852 : decode cL_isTick 852 = .ok (.ifCond .ne 105, 3) := by decide +kernel
theorem dL_isTick_855 : decode cL_isTick 855 = .ok (.iinc 17 (-1), 3) := by decide +kernel
theorem dL_isTick_858 : decode cL_isTick 858 = .ok (.aload 13, 2) := by decide +kernel
theorem dL_isTick_860 : decode cL_isTick 860 = .ok (.iload 17, 2) := by decide +kernel
theorem dL_isTick_862 : decode cL_isTick 862 = .ok (.iaload, 1) := by decide +kernel
theorem dL_isTick_863 : decode cL_isTick 863 = .ok (.istore 23, 2) := by decide +kernel
theorem dL_isTick_865 : decode cL_isTick 865 = .ok (.aload 9, 2) := by decide +kernel
theorem dL_isTick_867 : decode cL_isTick 867 = .ok (.iload 23, 2) := by decide +kernel
theorem dL_isTick_869 : decode cL_isTick 869 = .ok (.dup2, 1) := by decide +kernel
theorem dL_isTick_870 : decode cL_isTick 870 = .ok (.iaload, 1) := by decide +kernel
theorem dL_isTick_871 : decode cL_isTick 871 = .ok (.iconst 1, 1) := by decide +kernel
theorem dL_isTick_872 : decode cL_isTick 872 = .ok (.iadd, 1) := by decide +kernel
theorem dL_isTick_873 : decode cL_isTick 873 = .ok (.iastore, 1) := by decide +kernel
theorem dL_isTick_874 : decode cL_isTick 874 = .ok (.aload 5, 2) := by decide +kernel
theorem dL_isTick_876 : decode cL_isTick 876 = .ok (.iload 23, 2) := by decide +kernel
theorem dL_isTick_878 : decode cL_isTick 878 = .ok (.bipush (-6), 2) := by decide +kernel
theorem dL_isTick_880 : decode cL_isTick 880 = .ok (.iastore, 1) := by decide +kernel
theorem dL_isTick_881 : decode cL_isTick 881 = .ok (.aload_n 0, 1) := by decide +kernel
theorem dL_isTick_882 : decode cL_isTick 882 = .ok (.iload 23, 2) := by decide +kernel
theorem dL_isTick_884 : decode cL_isTick 884 = .ok (.iconst 3, 1) := by decide +kernel
theorem dL_isTick_885 : decode cL_isTick 885 = .ok (.invokevirtual 8, 3) := by decide +kernel
theorem dL_isTick_888 : decode cL_isTick 888 = .ok (.iconst 1, 1) := by decide +kernel
theorem dL_isTick_889 : decode cL_isTick 889 = .ok (.if_icmp .ne 68, 3) := by decide +kernel
theorem dL_isTick_892 : decode cL_isTick 892 = .ok (.iconst 0, 1) := by decide +kernel
theorem dL_isTick_893 : decode cL_isTick 893 = .ok (.istore 24, 2) := by decide +kernel
theorem dL_isTick_895 : decode cL_isTick 895 = .ok (.iload 24, 2) := by decide +kernel
theorem dL_isTick_897 : decode cL_isTick 897 = .ok (.iconst 4, 1) := by decide +kernel
theorem dL_isTick_898 : decode cL_isTick 898 = .ok (.if_icmp .ge 37, 3) := by decide +kernel
theorem dL_isTick_901 : decode cL_isTick 901 = .ok (.aload 4, 2) := by decide +kernel
theorem dL_isTick_903 : decode cL_isTick 903 = .ok (.iload 23, 2) := by decide +kernel
theorem dL_isTick_905 : decode cL_isTick 905 = .ok (.iaload, 1) := by decide +kernel
theorem dL_isTick_906 : decode cL_isTick 906 = .ok (.iload 24, 2) := by decide +kernel
theorem dL_isTick_908 : decode cL_isTick 908 = .ok (.invokestatic 30, 3) := by decide +kernel
theorem dL_isTick_911 : decode cL_isTick 911 = .ok (.ifCond .eq 18, 3) := by decide +kernel
theorem dL_isTick_914 : decode cL_isTick 914 = .ok (.aload 4, 2) := by decide +kernel
theorem dL_isTick_916 : decode cL_isTick 916 = .ok (.iload 23, 2) := by decide +kernel
theorem dL_isTick_918 : decode cL_isTick 918 = .ok (.dup2, 1) := by decide +kernel
theorem dL_isTick_919 : decode cL_isTick 919 = .ok (.iaload, 1) := by decide +kernel
theorem dL_isTick_920 : decode cL_isTick 920 = .ok (.iconst 1, 1) := by decide +kernel
theorem dL_isTick_921 : decode cL_isTick 921 = .ok (.iload 24, 2) := by decide +kernel
theorem dL_isTick_923 : decode cL_isTick 923 = .ok (.ishl, 1) := by decide +kernel
theorem dL_isTick_924 : decode cL_isTick 924 = .ok (.ixor, 1) := by decide +kernel
theorem dL_isTick_925 : decode cL_isTick 925 = .ok (.iastore, 1) := by decide +kernel
theorem dL_isTick_926 : decode cL_isTick 926 = .ok (.iconst 4, 1) := by decide +kernel
theorem dL_isTick_927 : decode cL_isTick 927 = .ok (.istore 24, 2) := by decide +kernel
theorem dL_isTick_929 : decode cL_isTick 929 = .ok (.iinc 24 1, 3) := by decide +kernel
theorem dL_isTick_932 : decode cL_isTick 932 = .ok (.goto (-37), 3) := by decide +kernel
theorem dL_isTick_935 : decode cL_isTick 935 = .ok (.aload_n 2, 1) := by decide +kernel
theorem dL_isTick_936 : decode cL_isTick 936 = .ok (.iload 23, 2) := by decide +kernel
theorem dL_isTick_938 : decode cL_isTick 938 = .ok (.aload 4, 2) := by decide +kernel
theorem dL_isTick_940 : decode cL_isTick 940 = .ok (.iload 23, 2) := by decide +kernel
theorem dL_isTick_942 : decode cL_isTick 942 = .ok (.iaload, 1) := by decide +kernel
theorem dL_isTick_943 : decode cL_isTick 943 = .ok (.ifCond .eq 7, 3) := by decide +kernel
theorem dL_isTick_946 : decode cL_isTick 946 = .ok (.iconst 1, 1) := by decide +kernel
theorem dL_isTick_947 : decode cL_isTick 947 = .ok (.goto 4, 3) := by decide +kernel
theorem dL_isTick_950 : decode cL_isTick 950 = .ok (.iconst 0, 1) := by decide +kernel
theorem dL_isTick_951 : decode cL_isTick 951 = .ok (.iastore, 1) := by decide +kernel
theorem dL_isTick_952 : decode cL_isTick 952 = .ok (.aload_n 3, 1) := by decide +kernel
theorem dL_isTick_953 : decode cL_isTick 953 = .ok (.iload 23, 2) := by decide +kernel
theorem dL_isTick_955 : decode cL_isTick 955 = .ok (.iconst 0, 1) := by decide +kernel
theorem dL_isTick_956 : decode cL_isTick 956 = .ok (.iastore, 1) := by decide +kernel
theorem dL_isTick_957 : decode cL_isTick 957 = .ok (.bipush 12, 2) := by decide +kernel
theorem dL_isTick_959 : decode cL_isTick 959 = .ok (.newarray .int, 2) := by decide +kernel
theorem dL_isTick_961 : decode cL_isTick 961 = .ok (.astore 23, 2) := by decide +kernel
theorem dL_isTick_963 : decode cL_isTick 963 = .ok (.iconst 0, 1) := by decide +kernel
theorem dL_isTick_964 : decode cL_isTick 964 = .ok (.istore 24, 2) := by decide +kernel
theorem dL_isTick_966 : decode cL_isTick 966 = .ok (.iload 24, 2) := by decide +kernel
theorem dL_isTick_968 : decode cL_isTick 968 = .ok (.iload_n 1, 1) := by decide +kernel
theorem dL_isTick_969 : decode cL_isTick 969 = .ok (.if_icmp .ge 32, 3) := by decide +kernel
theorem dL_isTick_972 : decode cL_isTick 972 = .ok (.aload_n 3, 1) := by decide +kernel
theorem dL_isTick_973 : decode cL_isTick 973 = .ok (.iload 24, 2) := by decide +kernel
theorem dL_isTick_975 : decode cL_isTick 975 = .ok (.dup2, 1) := by decide +kernel
theorem dL_isTick_976 : decode cL_isTick 976 = .ok (.iaload, 1) := by decide +kernel
theorem dL_isTick_977 : decode cL_isTick 977 = .ok (.aload_n 2, 1) := by decide +kernel
theorem dL_isTick_978 : decode cL_isTick 978 = .ok (.iload 24, 2) := by decide +kernel
theorem dL_isTick_980 : decode cL_isTick 980 = .ok (.iaload, 1) := by decide +kernel
theorem dL_isTick_981 : decode cL_isTick 981 = .ok (.iadd, 1) := by decide +kernel
theorem dL_isTick_982 : decode cL_isTick 982 = .ok (.iastore, 1) := by decide +kernel
theorem dL_isTick_983 : decode cL_isTick 983 = .ok (.aload 23, 2) := by decide +kernel
theorem dL_isTick_985 : decode cL_isTick 985 = .ok (.iload 24, 2) := by decide +kernel
theorem dL_isTick_987 : decode cL_isTick 987 = .ok (.aload_n 0, 1) := by decide +kernel
theorem dL_isTick_988 : decode cL_isTick 988 = .ok (.iload 24, 2) := by decide +kernel
theorem dL_isTick_990 : decode cL_isTick 990 = .ok (.iconst 4, 1) := by decide +kernel
theorem dL_isTick_991 : decode cL_isTick 991 = .ok (.invokevirtual 8, 3) := by decide +kernel
theorem dL_isTick_994 : decode cL_isTick 994 = .ok (.iastore, 1) := by decide +kernel
theorem dL_isTick_995 : decode cL_isTick 995 = .ok (.iinc 24 1, 3) := by decide +kernel
theorem dL_isTick_998 : decode cL_isTick 998 = .ok (.goto (-32), 3) := by decide +kernel
theorem dL_isTick_1001 : decode cL_isTick 1001 = .ok (.aload_n 0, 1) := by decide +kernel
theorem dL_isTick_1002 : decode cL_isTick 1002 = .ok (.iconst 1, 1) := by decide +kernel
theorem dL_isTick_1003 : decode cL_isTick 1003 = .ok (.invokevirtual 34, 3) := by decide +kernel
theorem dL_isTick_1006 : decode cL_isTick 1006 = .ok (.iload 18, 2) := by decide +kernel
theorem dL_isTick_1008 : decode cL_isTick 1008 = .ok (.iconst 1, 1) := by decide +kernel
theorem dL_isTick_1009 : decode cL_isTick 1009 = .ok (.iadd, 1) := by decide +kernel
theorem dL_isTick_1010 : decode cL_isTick 1010 = .ok (.if_icmp .ne 58, 3) := by decide +kernel
theorem dL_isTick_1013 : decode cL_isTick 1013 = .ok (.aload_n 0, 1) := by decide +kernel
theorem dL_isTick_1014 : decode cL_isTick 1014 = .ok (.iconst 0, 1) := by decide +kernel
theorem dL_isTick_1015 : decode cL_isTick 1015 = .ok (.invokevirtual 14, 3) := by decide +kernel
theorem dL_isTick_1018 : decode cL_isTick 1018 = .ok (.iload 18, 2) := by decide +kernel
theorem dL_isTick_1020 : decode cL_isTick 1020 = .ok (.iconst 1, 1) := by decide +kernel
theorem dL_isTick_1021 : decode cL_isTick 1021 = .ok (.iadd, 1) := by decide +kernel
theorem dL_isTick_1022 : decode cL_isTick 1022 = .ok (.if_icmp .ne 46, 3) := by decide +kernel
theorem dL_isTick_1025 : decode cL_isTick 1025 = .ok (.aload_n 0, 1) := by decide +kernel
theorem dL_isTick_1026 : decode cL_isTick 1026 = .ok (.iconst 3, 1) := by decide +kernel
theorem dL_isTick_1027 : decode cL_isTick 1027 = .ok (.invokevirtual 14, 3) := by decide +kernel
theorem dL_isTick_1030 : decode cL_isTick 1030 = .ok (.iload 17, 2) := by decide +kernel
theorem dL_isTick_1032 : decode cL_isTick 1032 = .ok (.if_icmp .ne 36, 3) := by decide +kernel
theorem dL_isTick_1035 : decode cL_isTick 1035 = .ok (.aload_n 0, 1) := by decide +kernel
theorem dL_isTick_1036 : decode cL_isTick 1036 = .ok (.bipush 6, 2) := by decide +kernel
theorem dL_isTick_1038 : decode cL_isTick 1038 = .ok (.invokevirtual 14, 3) := by decide +kernel
theorem dL_isTick_1041 : decode cL_isTick 1041 = .ok (.iload 19, 2) := by decide +kernel
theorem dL_isTick_1043 : decode cL_isTick 1043 = .ok (.if_icmp .ne 25, 3) := by decide +kernel
theorem dL_isTick_1046 : decode cL_isTick 1046 = .ok (.aload_n 0, 1) := by decide +kernel
theorem dL_isTick_1047 : decode cL_isTick 1047 = .ok (.bipush 7, 2) := by decide +kernel
theorem dL_isTick_1049 : decode cL_isTick 1049 = .ok (.invokevirtual 14, 3) := by decide +kernel
theorem dL_isTick_1052 : decode cL_isTick 1052 = .ok (.iload 20, 2) := by decide +kernel
theorem dL_isTick_1054 : decode cL_isTick 1054 = .ok (.if_icmp .ne 14, 3) := by decide +kernel
theorem dL_isTick_1057 : decode cL_isTick 1057 = .ok (.aload_n 0, 1) := by decide +kernel
theorem dL_isTick_1058 : decode cL_isTick 1058 = .ok (.bipush 9, 2) := by decide +kernel
theorem dL_isTick_1060 : decode cL_isTick 1060 = .ok (.invokevirtual 14, 3) := by decide +kernel
theorem dL_isTick_1063 : decode cL_isTick 1063 = .ok (.iload 21, 2) := by decide +kernel
theorem dL_isTick_1065 : decode cL_isTick 1065 = .ok (.if_icmp .eq 5, 3) := by decide +kernel
theorem dL_isTick_1068 : decode cL_isTick 1068 = .ok (.iconst 0, 1) := by decide +kernel
theorem dL_isTick_1069 : decode cL_isTick 1069 = .ok (.ireturn, 1) := by decide +kernel
theorem dL_isTick_1070 : decode cL_isTick 1070 = .ok (.iconst 0, 1) := by decide +kernel
theorem dL_isTick_1071 : decode cL_isTick 1071 = .ok (.istore 24, 2) := by decide +kernel
theorem dL_isTick_1073 : decode cL_isTick 1073 = .ok (.iload 24, 2) := by decide +kernel
theorem dL_isTick_1075 : decode cL_isTick 1075 = .ok (.iload_n 1, 1) := by decide +kernel
theorem dL_isTick_1076 : decode cL_isTick 1076 = .ok (.if_icmp .ge 230, 3) := by decide +kernel
theorem dL_isTick_1079 : decode cL_isTick 1079 = .ok (.aload_n 0, 1) := by decide +kernel
theorem dL_isTick_1080 : decode cL_isTick 1080 = .ok (.iload 24, 2) := by decide +kernel
theorem dL_isTick_1082 : decode cL_isTick 1082 = .ok (.iconst 5, 1) := by decide +kernel
theorem dL_isTick_1083 : decode cL_isTick 1083 = .ok (.invokevirtual 8, 3) := by decide +kernel
theorem dL_isTick_1086 : decode cL_isTick 1086 = .ok (.aload_n 2, 1) := by decide +kernel
theorem dL_isTick_1087 : decode cL_isTick 1087 = .ok (.iload 24, 2) := by decide +kernel
theorem dL_isTick_1089 : decode cL_isTick 1089 = .ok (.iaload, 1) := by decide +kernel
theorem dL_isTick_1090 : decode cL_isTick 1090 = .ok (.if_icmp .ne 76, 3) := by decide +kernel
theorem dL_isTick_1093 : decode cL_isTick 1093 = .ok (.aload_n 2, 1) := by decide +kernel
theorem dL_isTick_1094 : decode cL_isTick 1094 = .ok (.iload 24, 2) := by decide +kernel
theorem dL_isTick_1096 : decode cL_isTick 1096 = .ok (.iaload, 1) := by decide +kernel
theorem dL_isTick_1097 : decode cL_isTick 1097 = .ok (.ifCond .eq 18, 3) := by decide +kernel
theorem dL_isTick_1100 : decode cL_isTick 1100 = .ok (.aload_n 0, 1) := by decide +kernel
theorem dL_isTick_1101 : decode cL_isTick 1101 = .ok (.iload 24, 2) := by decide +kernel
theorem dL_isTick_1103 : decode cL_isTick 1103 = .ok (.bipush 6, 2) := by decide +kernel
theorem dL_isTick_1105 : decode cL_isTick 1105 = .ok (.invokevirtual 8, 3) := by decide +kernel
theorem dL_isTick_1108 : decode cL_isTick 1108 = .ok (.aload_n 3, 1) := by decide +kernel
theorem dL_isTick_1109 : decode cL_isTick 1109 = .ok (.iload 24, 2) := by decide +kernel
theorem dL_isTick_1111 : decode cL_isTick 1111 = .ok (.iaload, 1) := by decide +kernel
theorem dL_isTick_1112 : decode cL_isTick 1112 = .ok (.if_icmp .ne 54, 3) := by decide +kernel
theorem dL_isTick_1115 : decode cL_isTick 1115 = .ok (.aload_n 0, 1) := by decide +kernel
theorem dL_isTick_1116 : decode cL_isTick 1116 = .ok (.iload 24, 2) := by decide +kernel
theorem dL_isTick_1118 : decode cL_isTick 1118 = .ok (.bipush 8, 2) := by decide +kernel
theorem dL_isTick_1120 : decode cL_isTick 1120 = .ok (.invokevirtual 8, 3) := by decide +kernel
theorem dL_isTick_1123 : decode cL_isTick 1123 = .ok (.aload 5, 2) := by decide +kernel
theorem dL_isTick_1125 : decode cL_isTick 1125 = .ok (.iload 24, 2) := by decide +kernel
theorem dL_isTick_1127 : decode cL_isTick 1127 = .ok (.iaload, 1) := by decide +kernel
theorem dL_isTick_1128 : decode cL_isTick 1128 = .ok (.if_icmp .ne 38, 3) := by decide +kernel
theorem dL_isTick_1131 : decode cL_isTick 1131 = .ok (.aload_n 0, 1) := by decide +kernel
theorem dL_isTick_1132 : decode cL_isTick 1132 = .ok (.iload 24, 2) := by decide +kernel
theorem dL_isTick_1134 : decode cL_isTick 1134 = .ok (.bipush 9, 2) := by decide +kernel
theorem dL_isTick_1136 : decode cL_isTick 1136 = .ok (.invokevirtual 8, 3) := by decide +kernel
theorem dL_isTick_1139 : decode cL_isTick 1139 = .ok (.aload 4, 2) := by decide +kernel
theorem dL_isTick_1141 : decode cL_isTick 1141 = .ok (.iload 24, 2) := by decide +kernel
theorem dL_isTick_1143 : decode cL_isTick 1143 = .ok (.iaload, 1) := by decide +kernel
theorem dL_isTick_1144 : decode cL_isTick 1144 = .ok (.if_icmp .ne 22, 3) := by decide +kernel
theorem dL_isTick_1147 : decode cL_isTick 1147 = .ok (.aload_n 0, 1) := by decide +kernel
theorem dL_isTick_1148 : decode cL_isTick 1148 = .ok (.iload 24, 2) := by decide +kernel
theorem dL_isTick_1150 : decode cL_isTick 1150 = .ok (.iconst 4, 1) := by decide +kernel
theorem dL_isTick_1151 : decode cL_isTick 1151 = .ok (.invokevirtual 8, 3) := by decide +kernel
theorem dL_isTick_1154 : decode cL_isTick 1154 = .ok (.aload 23, 2) := by decide +kernel
theorem dL_isTick_1156 : decode cL_isTick 1156 = .ok (.iload 24, 2) := by decide +kernel
theorem dL_isTick_1158 : decode cL_isTick 1158 = .ok (.iaload, 1) := by decide +kernel
theorem dL_isTick_1159 : decode cL_isTick 1159 = .ok (.if_icmp .ne 7, 3) := by decide +kernel
theorem dL_isTick_1162 : decode cL_isTick 1162 = .ok (.iconst 1, 1) := by decide +kernel
theorem dL_isTick_1163 : decode cL_isTick 1163 = .ok (.goto 4, 3) := by decide +kernel
theorem dL_isTick_1166 : decode cL_isTick 1166 = .ok (.iconst 0, 1) := by decide +kernel
theorem dL_isTick_1167 : decode cL_isTick 1167 = .ok (.istore 25, 2) := by decide +kernel
theorem dL_isTick_1169 : decode cL_isTick 1169 = .ok (.aload_n 0, 1) := by decide +kernel
theorem dL_isTick_1170 : decode cL_isTick 1170 = .ok (.iload 24, 2) := by decide +kernel
theorem dL_isTick_1172 : decode cL_isTick 1172 = .ok (.bipush 10, 2) := by decide +kernel
theorem dL_isTick_1174 : decode cL_isTick 1174 = .ok (.invokevirtual 8, 3) := by decide +kernel
theorem dL_isTick_1177 : decode cL_isTick 1177 = .ok (.aload 6, 2) := by decide +kernel
theorem dL_isTick_1179 : decode cL_isTick 1179 = .ok (.iload 24, 2) := by decide +kernel
theorem dL_isTick_1181 : decode cL_isTick 1181 = .ok (.iaload, 1) := by decide +kernel
theorem dL_isTick_1182 : decode cL_isTick 1182 = .ok (.if_icmp .ne 103, 3) := by decide +kernel
theorem dL_isTick_1185 : decode cL_isTick 1185 = .ok (.aload_n 0, 1) := by decide +kernel
theorem dL_isTick_1186 : decode cL_isTick 1186 = .ok (.iload 24, 2) := by decide +kernel
theorem dL_isTick_1188 : decode cL_isTick 1188 = .ok (.bipush 11, 2) := by decide +kernel
theorem dL_isTick_1190 : decode cL_isTick 1190 = .ok (.invokevirtual 8, 3) := by decide +kernel
theorem dL_isTick_1193 : decode cL_isTick 1193 = .ok (.aload 7, 2) := by decide +kernel
theorem dL_isTick_1195 : decode cL_isTick 1195 = .ok (.iload 24, 2) := by decide +kernel
theorem dL_isTick_1197 : decode cL_isTick 1197 = .ok (.iaload, 1) := by decide +kernel
theorem dL_isTick_1198 : decode cL_isTick 1198 = .ok (.if_icmp .ne 87, 3) := by decide +kernel
theorem dL_isTick_1201 : decode cL_isTick 1201 = .ok (.aload_n 0, 1) := by decide +kernel
theorem dL_isTick_1202 : decode cL_isTick 1202 = .ok (.iload 24, 2) := by decide +kernel
theorem dL_isTick_1204 : decode cL_isTick 1204 = .ok (.bipush 12, 2) := by decide +kernel
theorem dL_isTick_1206 : decode cL_isTick 1206 = .ok (.invokevirtual 8, 3) := by decide +kernel
theorem dL_isTick_1209 : decode cL_isTick 1209 = .ok (.aload 8, 2) := by decide +kernel
theorem dL_isTick_1211 : decode cL_isTick 1211 = .ok (.iload 24, 2) := by decide +kernel
theorem dL_isTick_1213 : decode cL_isTick 1213 = .ok (.iaload, 1) := by decide +kernel
theorem dL_isTick_1214 : decode cL_isTick 1214 = .ok (.if_icmp .ne 71, 3) := by decide +kernel
theorem dL_isTick_1217 : decode cL_isTick 1217 = .ok (.aload_n 0, 1) := by decide +kernel
theorem dL_isTick_1218 : decode cL_isTick 1218 = .ok (.iload 24, 2) := by decide +kernel
theorem dL_isTick_1220 : decode cL_isTick 1220 = .ok (.bipush 13, 2) := by decide +kernel
theorem dL_isTick_1222 : decode cL_isTick 1222 = .ok (.invokevirtual 8, 3) := by decide +kernel
theorem dL_isTick_1225 : decode cL_isTick 1225 = .ok (.aload 9, 2) := by decide +kernel
theorem dL_isTick_1227 : decode cL_isTick 1227 = .ok (.iload 24, 2) := by decide +kernel
theorem dL_isTick_1229 : decode cL_isTick 1229 = .ok (.iaload, 1) := by decide +kernel
theorem dL_isTick_1230 : decode cL_isTick 1230 = .ok (.if_icmp .ne 55, 3) := by decide +kernel
theorem dL_isTick_1233 : decode cL_isTick 1233 = .ok (.aload_n 0, 1) := by decide +kernel
theorem dL_isTick_1234 : decode cL_isTick 1234 = .ok (.iload 24, 2) := by decide +kernel
theorem dL_isTick_1236 : decode cL_isTick 1236 = .ok (.bipush 14, 2) := by decide +kernel
theorem dL_isTick_1238 : decode cL_isTick 1238 = .ok (.invokevirtual 8, 3) := by decide +kernel
theorem dL_isTick_1241 : decode cL_isTick 1241 = .ok (.aload 10, 2) := by decide +kernel
theorem dL_isTick_1243 : decode cL_isTick 1243 = .ok (.iload 24, 2) := by decide +kernel
theorem dL_isTick_1245 : decode cL_isTick 1245 = .ok (.iaload, 1) := by decide +kernel
theorem dL_isTick_1246 : decode cL_isTick 1246 = .ok (.if_icmp .ne 39, 3) := by decide +kernel
theorem dL_isTick_1249 : decode cL_isTick 1249 = .ok (.aload_n 0, 1) := by decide +kernel
theorem dL_isTick_1250 : decode cL_isTick 1250 = .ok (.iload 24, 2) := by decide +kernel
theorem dL_isTick_1252 : decode cL_isTick 1252 = .ok (.bipush 15, 2) := by decide +kernel
theorem dL_isTick_1254 : decode cL_isTick 1254 = .ok (.invokevirtual 8, 3) := by decide +kernel
theorem dL_isTick_1257 : decode cL_isTick 1257 = .ok (.aload 11, 2) := by decide +kernel
theorem dL_isTick_1259 : decode cL_isTick 1259 = .ok (.iload 24, 2) := by decide +kernel
theorem dL_isTick_1261 : decode cL_isTick 1261 = .ok (.iaload, 1) := by decide +kernel
theorem dL_isTick_1262 : decode cL_isTick 1262 = .ok (.if_icmp .ne 23, 3) := by decide +kernel
theorem dL_isTick_1265 : decode cL_isTick 1265 = .ok (.aload_n 0, 1) := by decide +kernel
theorem dL_isTick_1266 : decode cL_isTick 1266 = .ok (.iload 24, 2) := by decide +kernel
theorem dL_isTick_1268 : decode cL_isTick 1268 = .ok (.bipush 16, 2) := by decide +kernel
theorem dL_isTick_1270 : decode cL_isTick 1270 = .ok (.invokevirtual 8, 3) := by decide +kernel
theorem dL_isTick_1273 : decode cL_isTick 1273 = .ok (.aload 12, 2) := by decide +kernel
theorem dL_isTick_1275 : decode cL_isTick 1275 = .ok (.iload 24, 2) := by decide +kernel
theorem dL_isTick_1277 : decode cL_isTick 1277 = .ok (.iaload, 1) := by decide +kernel
theorem dL_isTick_1278 : decode cL_isTick 1278 = .ok (.if_icmp .ne 7, 3) := by decide +kernel
theorem dL_isTick_1281 : decode cL_isTick 1281 = .ok (.iconst 1, 1) := by decide +kernel
theorem dL_isTick_1282 : decode cL_isTick 1282 = .ok (.goto 4, 3) := by decide +kernel
theorem dL_isTick_1285 : decode cL_isTick 1285 = .ok (.iconst 0, 1) := by decide +kernel
theorem dL_isTick_1286 : decode cL_isTick 1286 = .ok (.istore 26, 2) := by decide +kernel
theorem dL_isTick_1288 : decode cL_isTick 1288 = .ok (.iload 25, 2) := by decide +kernel
theorem dL_isTick_1290 : decode cL_isTick 1290 = .ok (.ifCond .eq 8, 3) := by decide +kernel
theorem dL_isTick_1293 : decode cL_isTick 1293 = .ok (.iload 26, 2) := by decide +kernel
theorem dL_isTick_1295 : decode cL_isTick 1295 = .ok (.ifCond .ne 5, 3) := by decide +kernel
theorem dL_isTick_1298 : decode cL_isTick 1298 = .ok (.iconst 0, 1) := by decide +kernel
theorem dL_isTick_1299 : decode cL_isTick 1299 = .ok (.ireturn, 1) := by decide +kernel
theorem dL_isTick_1300 : decode cL_isTick 1300 = .ok (.iinc 24 1, 3) := by decide +kernel
theorem dL_isTick_1303 : decode cL_isTick 1303 = .ok (.goto (-230), 3) := by decide +kernel
theorem dL_isTick_1306 : decode cL_isTick 1306 = .ok (.iconst 0, 1) := by decide +kernel
theorem dL_isTick_1307 : decode cL_isTick 1307 = .ok (.istore 24, 2) := by decide +kernel
theorem dL_isTick_1309 : decode cL_isTick 1309 = .ok (.iload 24, 2) := by decide +kernel
theorem dL_isTick_1311 : decode cL_isTick 1311 = .ok (.iload 17, 2) := by decide +kernel
theorem dL_isTick_1313 : decode cL_isTick 1313 = .ok (.if_icmp .ge 56, 3) := by decide +kernel
theorem dL_isTick_1316 : decode cL_isTick 1316 = .ok (.aload_n 0, 1) := by decide +kernel
theorem dL_isTick_1317 : decode cL_isTick 1317 = .ok (.iload 24, 2) := by decide +kernel
theorem dL_isTick_1319 : decode cL_isTick 1319 = .ok (.iconst 0, 1) := by decide +kernel
theorem dL_isTick_1320 : decode cL_isTick 1320 = .ok (.invokevirtual 24, 3) := by decide +kernel
theorem dL_isTick_1323 : decode cL_isTick 1323 = .ok (.aload 13, 2) := by decide +kernel
theorem dL_isTick_1325 : decode cL_isTick 1325 = .ok (.iload 24, 2) := by decide +kernel
theorem dL_isTick_1327 : decode cL_isTick 1327 = .ok (.iaload, 1) := by decide +kernel
theorem dL_isTick_1328 : decode cL_isTick 1328 = .ok (.if_icmp .ne 33, 3) := by decide +kernel
theorem dL_isTick_1331 : decode cL_isTick 1331 = .ok (.aload_n 0, 1) := by decide +kernel
theorem dL_isTick_1332 : decode cL_isTick 1332 = .ok (.iload 24, 2) := by decide +kernel
theorem dL_isTick_1334 : decode cL_isTick 1334 = .ok (.iconst 1, 1) := by decide +kernel
theorem dL_isTick_1335 : decode cL_isTick 1335 = .ok (.invokevirtual 24, 3) := by decide +kernel
theorem dL_isTick_1338 : decode cL_isTick 1338 = .ok (.aload 14, 2) := by decide +kernel
theorem dL_isTick_1340 : decode cL_isTick 1340 = .ok (.iload 24, 2) := by decide +kernel
theorem dL_isTick_1342 : decode cL_isTick 1342 = .ok (.iaload, 1) := by decide +kernel
theorem dL_isTick_1343 : decode cL_isTick 1343 = .ok (.if_icmp .ne 18, 3) := by decide +kernel
theorem dL_isTick_1346 : decode cL_isTick 1346 = .ok (.aload_n 0, 1) := by decide +kernel
theorem dL_isTick_1347 : decode cL_isTick 1347 = .ok (.iload 24, 2) := by decide +kernel
theorem dL_isTick_1349 : decode cL_isTick 1349 = .ok (.iconst 2, 1) := by decide +kernel
theorem dL_isTick_1350 : decode cL_isTick 1350 = .ok (.invokevirtual 24, 3) := by decide +kernel
theorem dL_isTick_1353 : decode cL_isTick 1353 = .ok (.aload 15, 2) := by decide +kernel
theorem dL_isTick_1355 : decode cL_isTick 1355 = .ok (.iload 24, 2) := by decide +kernel
theorem dL_isTick_1357 : decode cL_isTick 1357 = .ok (.iaload, 1) := by decide +kernel
theorem dL_isTick_1358 : decode cL_isTick 1358 = .ok (.if_icmp .eq 5, 3) := by decide +kernel
theorem dL_isTick_1361 : decode cL_isTick 1361 = .ok (.iconst 0, 1) := by decide +kernel
theorem dL_isTick_1362 : decode cL_isTick 1362 = .ok (.ireturn, 1) := by decide +kernel
theorem dL_isTick_1363 : decode cL_isTick 1363 = .ok (.iinc 24 1, 3) := by decide +kernel
theorem dL_isTick_1366 : decode cL_isTick 1366 = .ok (.goto (-57), 3) := by decide +kernel
theorem dL_isTick_1369 : decode cL_isTick 1369 = .ok (.iconst 0, 1) := by decide +kernel
theorem dL_isTick_1370 : decode cL_isTick 1370 = .ok (.istore 24, 2) := by decide +kernel
theorem dL_isTick_1372 : decode cL_isTick 1372 = .ok (.iload 24, 2) := by decide +kernel
theorem dL_isTick_1374 : decode cL_isTick 1374 = .ok (.aload_n 0, 1) := by decide +kernel
theorem dL_isTick_1375 : decode cL_isTick 1375 = .ok (.iconst 2, 1) := by decide +kernel
theorem dL_isTick_1376 : decode cL_isTick 1376 = .ok (.invokevirtual 14, 3) := by decide +kernel
theorem dL_isTick_1379 : decode cL_isTick 1379 = .ok (.if_icmp .ge 26, 3) := by decide +kernel
theorem dL_isTick_1382 : decode cL_isTick 1382 = .ok (.aload_n 0, 1) := by decide +kernel
theorem dL_isTick_1383 : decode cL_isTick 1383 = .ok (.iload 24, 2) := by decide +kernel
theorem dL_isTick_1385 : decode cL_isTick 1385 = .ok (.iconst 2, 1) := by decide +kernel
theorem dL_isTick_1386 : decode cL_isTick 1386 = .ok (.invokevirtual 27, 3) := by decide +kernel
theorem dL_isTick_1389 : decode cL_isTick 1389 = .ok (.aload 16, 2) := by decide +kernel
theorem dL_isTick_1391 : decode cL_isTick 1391 = .ok (.iload 24, 2) := by decide +kernel
theorem dL_isTick_1393 : decode cL_isTick 1393 = .ok (.iaload, 1) := by decide +kernel
theorem dL_isTick_1394 : decode cL_isTick 1394 = .ok (.if_icmp .eq 5, 3) := by decide +kernel
theorem dL_isTick_1397 : decode cL_isTick 1397 = .ok (.iconst 0, 1) := by decide +kernel
theorem dL_isTick_1398 : decode cL_isTick 1398 = .ok (.ireturn, 1) := by decide +kernel
theorem dL_isTick_1399 : decode cL_isTick 1399 = .ok (.iinc 24 1, 3) := by decide +kernel
theorem dL_isTick_1402 : decode cL_isTick 1402 = .ok (.goto (-30), 3) := by decide +kernel
theorem dL_isTick_1405 : decode cL_isTick 1405 = .ok (.iconst 1, 1) := by decide +kernel
theorem dL_isTick_1406 : decode cL_isTick 1406 = .ok (.ireturn, 1) := by decide +kernel
theorem dL_isRaised_0 : decode cL_isRaised 0 = .ok (.aload_n 0, 1) := by decide +kernel
theorem dL_isRaised_1 : decode cL_isRaised 1 = .ok (.iload_n 1, 1) := by decide +kernel
theorem dL_isRaised_2 : decode cL_isRaised 2 = .ok (.iconst 5, 1) := by decide +kernel
theorem dL_isRaised_3 : decode cL_isRaised 3 = .ok (.invokevirtual 8, 3) := by decide +kernel
theorem dL_isRaised_6 : decode cL_isRaised 6 = .ok (.istore_n 2, 1) := by decide +kernel
theorem dL_isRaised_7 : decode cL_isRaised 7 = .ok (.aload_n 0, 1) := by decide +kernel
theorem dL_isRaised_8 : decode cL_isRaised 8 = .ok (.iload_n 1, 1) := by decide +kernel
theorem dL_isRaised_9 : decode cL_isRaised 9 = .ok (.bipush 10, 2) := by decide +kernel
theorem dL_isRaised_11 : decode cL_isRaised 11 = .ok (.invokevirtual 8, 3) := by decide +kernel
theorem dL_isRaised_14 : decode cL_isRaised 14 = .ok (.istore_n 3, 1) := by decide +kernel
theorem dL_isRaised_15 : decode cL_isRaised 15 = .ok (.aload_n 0, 1) := by decide +kernel
theorem dL_isRaised_16 : decode cL_isRaised 16 = .ok (.iload_n 1, 1) := by decide +kernel
theorem dL_isRaised_17 : decode cL_isRaised 17 = .ok (.bipush 11, 2) := by decide +kernel
theorem dL_isRaised_19 : decode cL_isRaised 19 = .ok (.invokevirtual 8, 3) := by decide +kernel
theorem dL_isRaised_22 : decode cL_isRaised 22 = .ok (.istore 4, 2) := by decide +kernel
theorem dL_isRaised_24 : decode cL_isRaised 24 = .ok (.aload_n 0, 1) := by decide +kernel
theorem dL_isRaised_25 : decode cL_isRaised 25 = .ok (.iload_n 1, 1) := by decide +kernel
theorem dL_isRaised_26 : decode cL_isRaised 26 = .ok (.bipush 6, 2) := by decide +kernel
theorem dL_isRaised_28 : decode cL_isRaised 28 = .ok (.invokevirtual 8, 3) := by decide +kernel
theorem dL_isRaised_31 : decode cL_isRaised 31 = .ok (.istore 5, 2) := by decide +kernel
theorem dL_isRaised_33 : decode cL_isRaised 33 = .ok (.iload_n 2, 1) := by decide +kernel
theorem dL_isRaised_34 : decode cL_isRaised 34 = .ok (.ifCond .ne 26, 3) := by decide +kernel
theorem dL_isRaised_37 : decode cL_isRaised 37 = .ok (.aload_n 0, 1) := by decide +kernel
theorem dL_isRaised_38 : decode cL_isRaised 38 = .ok (.iload_n 1, 1) := by decide +kernel
theorem dL_isRaised_39 : decode cL_isRaised 39 = .ok (.iconst 4, 1) := by decide +kernel
theorem dL_isRaised_40 : decode cL_isRaised 40 = .ok (.invokevirtual 8, 3) := by decide +kernel
theorem dL_isRaised_43 : decode cL_isRaised 43 = .ok (.ifCond .eq 13, 3) := by decide +kernel
theorem dL_isRaised_46 : decode cL_isRaised 46 = .ok (.aload_n 0, 1) := by decide +kernel
theorem dL_isRaised_47 : decode cL_isRaised 47 = .ok (.bipush 17, 2) := by decide +kernel
theorem dL_isRaised_49 : decode cL_isRaised 49 = .ok (.invokevirtual 14, 3) := by decide +kernel
theorem dL_isRaised_52 : decode cL_isRaised 52 = .ok (.iconst 1, 1) := by decide +kernel
theorem dL_isRaised_53 : decode cL_isRaised 53 = .ok (.if_icmp .ne 7, 3) := by decide +kernel
theorem dL_isRaised_56 : decode cL_isRaised 56 = .ok (.iconst 1, 1) := by decide +kernel
theorem dL_isRaised_57 : decode cL_isRaised 57 = .ok (.goto 4, 3) := by decide +kernel
theorem dL_isRaised_60 : decode cL_isRaised 60 = .ok (.iconst 0, 1) := by decide +kernel
theorem dL_isRaised_61 : decode cL_isRaised 61 = .ok (.istore 6, 2) := by decide +kernel
theorem dL_isRaised_63 : decode cL_isRaised 63 = .ok (.aload_n 0, 1) := by decide +kernel
theorem dL_isRaised_64 : decode cL_isRaised 64 = .ok (.iload_n 1, 1) := by decide +kernel
theorem dL_isRaised_65 : decode cL_isRaised 65 = .ok (.invokevirtual 37, 3) := by decide +kernel
theorem dL_isRaised_68 : decode cL_isRaised 68 = .ok (.istore 7, 2) := by decide +kernel
theorem dL_isRaised_70 : decode cL_isRaised 70 = .ok (.aload_n 0, 1) := by decide +kernel
theorem dL_isRaised_71 : decode cL_isRaised 71 = .ok (.iload_n 1, 1) := by decide +kernel
theorem dL_isRaised_72 : decode cL_isRaised 72 = .ok (.iconst 3, 1) := by decide +kernel
theorem dL_isRaised_73 : decode cL_isRaised 73 = .ok (.invokevirtual 8, 3) := by decide +kernel
theorem dL_isRaised_76 : decode cL_isRaised 76 = .ok (.iconst 1, 1) := by decide +kernel
theorem dL_isRaised_77 : decode cL_isRaised 77 = .ok (.if_icmp .ne 26, 3) := by decide +kernel
theorem dL_isRaised_80 : decode cL_isRaised 80 = .ok (.iload 7, 2) := by decide +kernel
theorem dL_isRaised_82 : decode cL_isRaised 82 = .ok (.bipush (-5), 2) := by decide +kernel
theorem dL_isRaised_84 : decode cL_isRaised 84 = .ok (.if_icmp .ne 17, 3) := by decide +kernel
theorem dL_isRaised_87 : decode cL_isRaised 87 = .ok (.aload_n 0, 1) := by decide +kernel
theorem dL_isRaised_88 : decode cL_isRaised 88 = .ok (.iload_n 1, 1) := by decide +kernel
theorem dL_isRaised_89 : decode cL_isRaised 89 = .ok (.iconst 5, 1) := by decide +kernel
theorem dL_isRaised_90 : decode cL_isRaised 90 = .ok (.invokevirtual 8, 3) := by decide +kernel
theorem dL_isRaised_93 : decode cL_isRaised 93 = .ok (.iload_n 2, 1) := by decide +kernel
theorem dL_isRaised_94 : decode cL_isRaised 94 = .ok (.if_icmp .ne 7, 3) := by decide +kernel
theorem dL_isRaised_97 : decode cL_isRaised 97 = .ok (.iconst 1, 1) := by decide +kernel
theorem dL_isRaised_98 : decode cL_isRaised 98 = .ok (.goto 4, 3) := by decide +kernel
theorem dL_isRaised_101 : decode cL_isRaised 101 = .ok (.iconst 0, 1) := by decide +kernel
theorem dL_isRaised_102 : decode cL_isRaised 102 = .ok (.ireturn, 1) := by decide +kernel
theorem dL_isRaised_103 : decode cL_isRaised 103 = .ok (.iload 7, 2) := by decide +kernel
theorem dL_isRaised_105 : decode cL_isRaised 105 = .ok (.iload 6, 2) := by decide +kernel
theorem dL_isRaised_107 : decode cL_isRaised 107 = .ok (.ifCond .eq 7, 3) := by decide +kernel
theorem dL_isRaised_110 : decode cL_isRaised 110 = .ok (.iconst 1, 1) := by decide +kernel
theorem dL_isRaised_111 : decode cL_isRaised 111 = .ok (.goto 4, 3) := by decide +kernel
theorem dL_isRaised_114 : decode cL_isRaised 114 = .ok (.iconst 0, 1) := by decide +kernel
theorem dL_isRaised_115 : decode cL_isRaised 115 = .ok (.if_icmp .ne 64, 3) := by decide +kernel
theorem dL_isRaised_118 : decode cL_isRaised 118 = .ok (.aload_n 0, 1) := by decide +kernel
theorem dL_isRaised_119 : decode cL_isRaised 119 = .ok (.iload_n 1, 1) := by decide +kernel
theorem dL_isRaised_120 : decode cL_isRaised 120 = .ok (.bipush 10, 2) := by decide +kernel
theorem dL_isRaised_122 : decode cL_isRaised 122 = .ok (.invokevirtual 8, 3) := by decide +kernel
theorem dL_isRaised_125 : decode cL_isRaised 125 = .ok (.iload_n 3, 1) := by decide +kernel
theorem dL_isRaised_126 : decode cL_isRaised 126 = .ok (.iconst 1, 1) := by decide +kernel
theorem dL_isRaised_127 : decode cL_isRaised 127 = .ok (.iadd, 1) := by decide +kernel
theorem dL_isRaised_128 : decode cL_isRaised 128 = .ok (.if_icmp .ne 51, 3) := by decide +kernel
theorem dL_isRaised_131 : decode cL_isRaised 131 = .ok (.aload_n 0, 1) := by decide +kernel
theorem dL_isRaised_132 : decode cL_isRaised 132 = .ok (.iload_n 1, 1) := by decide +kernel
theorem dL_isRaised_133 : decode cL_isRaised 133 = .ok (.bipush 11, 2) := by decide +kernel
theorem dL_isRaised_135 : decode cL_isRaised 135 = .ok (.invokevirtual 8, 3) := by decide +kernel
theorem dL_isRaised_138 : decode cL_isRaised 138 = .ok (.iload 4, 2) := by decide +kernel
theorem dL_isRaised_140 : decode cL_isRaised 140 = .ok (.iload 6, 2) := by decide +kernel
theorem dL_isRaised_142 : decode cL_isRaised 142 = .ok (.ifCond .eq 7, 3) := by decide +kernel
theorem dL_isRaised_145 : decode cL_isRaised 145 = .ok (.iconst 0, 1) := by decide +kernel
theorem dL_isRaised_146 : decode cL_isRaised 146 = .ok (.goto 4, 3) := by decide +kernel
theorem dL_isRaised_149 : decode cL_isRaised 149 = .ok (.iconst 1, 1) := by decide +kernel
theorem dL_isRaised_150 : decode cL_isRaised 150 = .ok (.iadd, 1) := by decide +kernel
theorem dL_isRaised_151 : decode cL_isRaised 151 = .ok (.if_icmp .ne 28, 3) := by decide +kernel
theorem dL_isRaised_154 : decode cL_isRaised 154 = .ok (.aload_n 0, 1) := by decide +kernel
theorem dL_isRaised_155 : decode cL_isRaised 155 = .ok (.iload_n 1, 1) := by decide +kernel
theorem dL_isRaised_156 : decode cL_isRaised 156 = .ok (.bipush 6, 2) := by decide +kernel
theorem dL_isRaised_158 : decode cL_isRaised 158 = .ok (.invokevirtual 8, 3) := by decide +kernel
theorem dL_isRaised_161 : decode cL_isRaised 161 = .ok (.iload 6, 2) := by decide +kernel
theorem dL_isRaised_163 : decode cL_isRaised 163 = .ok (.ifCond .eq 7, 3) := by decide +kernel
theorem dL_isRaised_166 : decode cL_isRaised 166 = .ok (.iconst 0, 1) := by decide +kernel
theorem dL_isRaised_167 : decode cL_isRaised 167 = .ok (.goto 5, 3) := by decide +kernel
theorem dL_isRaised_170 : decode cL_isRaised 170 = .ok (.iload 5, 2) := by decide +kernel
theorem dL_isRaised_172 : decode cL_isRaised 172 = .ok (.if_icmp .ne 7, 3) := by decide +kernel
theorem dL_isRaised_175 : decode cL_isRaised 175 = .ok (.iconst 1, 1) := by decide +kernel
theorem dL_isRaised_176 : decode cL_isRaised 176 = .ok (.goto 4, 3) := by decide +kernel
theorem dL_isRaised_179 : decode cL_isRaised 179 = .ok (.iconst 0, 1) := by decide +kernel
theorem dL_isRaised_180 : decode cL_isRaised 180 = .ok (.ireturn, 1) := by decide +kernel
theorem dL_isHeld_0 : decode cL_isHeld 0 = .ok (.aload_n 0, 1) := by decide +kernel
theorem dL_isHeld_1 : decode cL_isHeld 1 = .ok (.iload_n 1, 1) := by decide +kernel
theorem dL_isHeld_2 : decode cL_isHeld 2 = .ok (.bipush 9, 2) := by decide +kernel
theorem dL_isHeld_4 : decode cL_isHeld 4 = .ok (.invokevirtual 8, 3) := by decide +kernel
theorem dL_isHeld_7 : decode cL_isHeld 7 = .ok (.istore 4, 2) := by decide +kernel
theorem dL_isHeld_9 : decode cL_isHeld 9 = .ok (.iload_n 3, 1) := by decide +kernel
theorem dL_isHeld_10 : decode cL_isHeld 10 = .ok (.iconst 1, 1) := by decide +kernel
theorem dL_isHeld_11 : decode cL_isHeld 11 = .ok (.if_icmp .ne 12, 3) := by decide +kernel
theorem dL_isHeld_14 : decode cL_isHeld 14 = .ok (.iload 4, 2) := by decide +kernel
theorem dL_isHeld_16 : decode cL_isHeld 16 = .ok (.iconst 1, 1) := by decide +kernel
theorem dL_isHeld_17 : decode cL_isHeld 17 = .ok (.iload_n 2, 1) := by decide +kernel
theorem dL_isHeld_18 : decode cL_isHeld 18 = .ok (.ishl, 1) := by decide +kernel
theorem dL_isHeld_19 : decode cL_isHeld 19 = .ok (.ior, 1) := by decide +kernel
theorem dL_isHeld_20 : decode cL_isHeld 20 = .ok (.goto 11, 3) := by decide +kernel
theorem dL_isHeld_23 : decode cL_isHeld 23 = .ok (.iload 4, 2) := by decide +kernel
theorem dL_isHeld_25 : decode cL_isHeld 25 = .ok (.iconst 1, 1) := by decide +kernel
theorem dL_isHeld_26 : decode cL_isHeld 26 = .ok (.iload_n 2, 1) := by decide +kernel
theorem dL_isHeld_27 : decode cL_isHeld 27 = .ok (.ishl, 1) := by decide +kernel
theorem dL_isHeld_28 : decode cL_isHeld 28 = .ok (.iconst (-1), 1) := by decide +kernel
theorem dL_isHeld_29 : decode cL_isHeld 29 = .ok (.ixor, 1) := by decide +kernel
theorem dL_isHeld_30 : decode cL_isHeld 30 = .ok (.iand, 1) := by decide +kernel
theorem dL_isHeld_31 : decode cL_isHeld 31 = .ok (.istore 5, 2) := by decide +kernel
theorem dL_isHeld_33 : decode cL_isHeld 33 = .ok (.aload_n 0, 1) := by decide +kernel
theorem dL_isHeld_34 : decode cL_isHeld 34 = .ok (.iload_n 1, 1) := by decide +kernel
theorem dL_isHeld_35 : decode cL_isHeld 35 = .ok (.bipush 6, 2) := by decide +kernel
theorem dL_isHeld_37 : decode cL_isHeld 37 = .ok (.invokevirtual 8, 3) := by decide +kernel
theorem dL_isHeld_40 : decode cL_isHeld 40 = .ok (.istore 6, 2) := by decide +kernel
theorem dL_isHeld_42 : decode cL_isHeld 42 = .ok (.aload_n 0, 1) := by decide +kernel
theorem dL_isHeld_43 : decode cL_isHeld 43 = .ok (.iload_n 1, 1) := by decide +kernel
theorem dL_isHeld_44 : decode cL_isHeld 44 = .ok (.iload_n 2, 1) := by decide +kernel
theorem dL_isHeld_45 : decode cL_isHeld 45 = .ok (.iload_n 3, 1) := by decide +kernel
theorem dL_isHeld_46 : decode cL_isHeld 46 = .ok (.invokevirtual 40, 3) := by decide +kernel
theorem dL_isHeld_49 : decode cL_isHeld 49 = .ok (.istore 7, 2) := by decide +kernel
theorem dL_isHeld_51 : decode cL_isHeld 51 = .ok (.aload_n 0, 1) := by decide +kernel
theorem dL_isHeld_52 : decode cL_isHeld 52 = .ok (.iload_n 1, 1) := by decide +kernel
theorem dL_isHeld_53 : decode cL_isHeld 53 = .ok (.iconst 3, 1) := by decide +kernel
theorem dL_isHeld_54 : decode cL_isHeld 54 = .ok (.invokevirtual 8, 3) := by decide +kernel
theorem dL_isHeld_57 : decode cL_isHeld 57 = .ok (.ifCond .ne 16, 3) := by decide +kernel
theorem dL_isHeld_60 : decode cL_isHeld 60 = .ok (.iload 7, 2) := by decide +kernel
theorem dL_isHeld_62 : decode cL_isHeld 62 = .ok (.bipush (-5), 2) := by decide +kernel
theorem dL_isHeld_64 : decode cL_isHeld 64 = .ok (.if_icmp .ne 7, 3) := by decide +kernel
theorem dL_isHeld_67 : decode cL_isHeld 67 = .ok (.iconst 1, 1) := by decide +kernel
theorem dL_isHeld_68 : decode cL_isHeld 68 = .ok (.goto 4, 3) := by decide +kernel
theorem dL_isHeld_71 : decode cL_isHeld 71 = .ok (.iconst 0, 1) := by decide +kernel
theorem dL_isHeld_72 : decode cL_isHeld 72 = .ok (.ireturn, 1) := by decide +kernel
theorem dL_isHeld_73 : decode cL_isHeld 73 = .ok (.iload 5, 2) := by decide +kernel
theorem dL_isHeld_75 : decode cL_isHeld 75 = .ok (.ifCond .eq 17, 3) := by decide +kernel
theorem dL_isHeld_78 : decode cL_isHeld 78 = .ok (.aload_n 0, 1) := by decide +kernel
theorem dL_isHeld_79 : decode cL_isHeld 79 = .ok (.iload_n 1, 1) := by decide +kernel
theorem dL_isHeld_80 : decode cL_isHeld 80 = .ok (.bipush 8, 2) := by decide +kernel
theorem dL_isHeld_82 : decode cL_isHeld 82 = .ok (.invokevirtual 8, 3) := by decide +kernel
theorem dL_isHeld_85 : decode cL_isHeld 85 = .ok (.ifCond .ge 7, 3) := by decide +kernel
theorem dL_isHeld_88 : decode cL_isHeld 88 = .ok (.iconst 1, 1) := by decide +kernel
theorem dL_isHeld_89 : decode cL_isHeld 89 = .ok (.goto 4, 3) := by decide +kernel
theorem dL_isHeld_92 : decode cL_isHeld 92 = .ok (.iconst 0, 1) := by decide +kernel
theorem dL_isHeld_93 : decode cL_isHeld 93 = .ok (.istore 8, 2) := by decide +kernel
theorem dL_isHeld_95 : decode cL_isHeld 95 = .ok (.iload 7, 2) := by decide +kernel
theorem dL_isHeld_97 : decode cL_isHeld 97 = .ok (.iload 5, 2) := by decide +kernel
theorem dL_isHeld_99 : decode cL_isHeld 99 = .ok (.if_icmp .ne 50, 3) := by decide +kernel
theorem dL_isHeld_102 : decode cL_isHeld 102 = .ok (.aload_n 0, 1) := by decide +kernel
theorem dL_isHeld_103 : decode cL_isHeld 103 = .ok (.iload_n 1, 1) := by decide +kernel
theorem dL_isHeld_104 : decode cL_isHeld 104 = .ok (.bipush 9, 2) := by decide +kernel
theorem dL_isHeld_106 : decode cL_isHeld 106 = .ok (.invokevirtual 8, 3) := by decide +kernel
theorem dL_isHeld_109 : decode cL_isHeld 109 = .ok (.iload 5, 2) := by decide +kernel
theorem dL_isHeld_111 : decode cL_isHeld 111 = .ok (.if_icmp .ne 38, 3) := by decide +kernel
theorem dL_isHeld_114 : decode cL_isHeld 114 = .ok (.aload_n 0, 1) := by decide +kernel
theorem dL_isHeld_115 : decode cL_isHeld 115 = .ok (.iload_n 1, 1) := by decide +kernel
theorem dL_isHeld_116 : decode cL_isHeld 116 = .ok (.bipush 6, 2) := by decide +kernel
theorem dL_isHeld_118 : decode cL_isHeld 118 = .ok (.invokevirtual 8, 3) := by decide +kernel
theorem dL_isHeld_121 : decode cL_isHeld 121 = .ok (.iload 8, 2) := by decide +kernel
theorem dL_isHeld_123 : decode cL_isHeld 123 = .ok (.ifCond .ne 8, 3) := by decide +kernel
theorem dL_isHeld_126 : decode cL_isHeld 126 = .ok (.bipush (-6), 2) := by decide +kernel
theorem dL_isHeld_128 : decode cL_isHeld 128 = .ok (.goto 14, 3) := by decide +kernel
theorem dL_isHeld_131 : decode cL_isHeld 131 = .ok (.iload 6, 2) := by decide +kernel
theorem dL_isHeld_133 : decode cL_isHeld 133 = .ok (.ifCond .ge 7, 3) := by decide +kernel
theorem dL_isHeld_136 : decode cL_isHeld 136 = .ok (.iconst 0, 1) := by decide +kernel
theorem dL_isHeld_137 : decode cL_isHeld 137 = .ok (.goto 5, 3) := by decide +kernel
theorem dL_isHeld_140 : decode cL_isHeld 140 = .ok (.iload 6, 2) := by decide +kernel
theorem dL_isHeld_142 : decode cL_isHeld 142 = .ok (.if_icmp .ne 7, 3) := by decide +kernel
theorem dL_isHeld_145 : decode cL_isHeld 145 = .ok (.iconst 1, 1) := by decide +kernel
theorem dL_isHeld_146 : decode cL_isHeld 146 = .ok (.goto 4, 3) := by decide +kernel
theorem dL_isHeld_149 : decode cL_isHeld 149 = .ok (.iconst 0, 1) := by decide +kernel
theorem dL_isHeld_150 : decode cL_isHeld 150 = .ok (.ireturn, 1) := by decide +kernel
theorem dL_isTimer_0 : decode cL_isTimer 0 = .ok (.aload_n 0, 1) := by decide +kernel
theorem dL_isTimer_1 : decode cL_isTimer 1 = .ok (.iconst 2, 1) := by decide +kernel
theorem dL_isTimer_2 : decode cL_isTimer 2 = .ok (.invokevirtual 14, 3) := by decide +kernel
theorem dL_isTimer_5 : decode cL_isTimer 5 = .ok (.istore 4, 2) := by decide +kernel
theorem dL_isTimer_7 : decode cL_isTimer 7 = .ok (.aload_n 0, 1) := by decide +kernel
theorem dL_isTimer_8 : decode cL_isTimer 8 = .ok (.iload_n 1, 1) := by decide +kernel
theorem dL_isTimer_9 : decode cL_isTimer 9 = .ok (.iload_n 2, 1) := by decide +kernel
theorem dL_isTimer_10 : decode cL_isTimer 10 = .ok (.aload_n 0, 1) := by decide +kernel
theorem dL_isTimer_11 : decode cL_isTimer 11 = .ok (.iconst 0, 1) := by decide +kernel
theorem dL_isTimer_12 : decode cL_isTimer 12 = .ok (.invokevirtual 14, 3) := by decide +kernel
theorem dL_isTimer_15 : decode cL_isTimer 15 = .ok (.iload_n 3, 1) := by decide +kernel
theorem dL_isTimer_16 : decode cL_isTimer 16 = .ok (.iadd, 1) := by decide +kernel
theorem dL_isTimer_17 : decode cL_isTimer 17 = .ok (.invokevirtual 44, 3) := by decide +kernel
theorem dL_isTimer_20 : decode cL_isTimer 20 = .ok (.istore 5, 2) := by decide +kernel
theorem dL_isTimer_22 : decode cL_isTimer 22 = .ok (.iload 4, 2) := by decide +kernel
theorem dL_isTimer_24 : decode cL_isTimer 24 = .ok (.bipush 6, 2) := by decide +kernel
theorem dL_isTimer_26 : decode cL_isTimer 26 = .ok (.if_icmp .eq 13, 3) := by decide +kernel
theorem dL_isTimer_29 : decode cL_isTimer 29 = .ok (.aload_n 0, 1) := by decide +kernel
theorem dL_isTimer_30 : decode cL_isTimer 30 = .ok (.iload_n 1, 1) := by decide +kernel
theorem dL_isTimer_31 : decode cL_isTimer 31 = .ok (.iconst 3, 1) := by decide +kernel
theorem dL_isTimer_32 : decode cL_isTimer 32 = .ok (.invokevirtual 8, 3) := by decide +kernel
theorem dL_isTimer_35 : decode cL_isTimer 35 = .ok (.iconst 1, 1) := by decide +kernel
theorem dL_isTimer_36 : decode cL_isTimer 36 = .ok (.if_icmp .ne 38, 3) := by decide +kernel
theorem dL_isTimer_39 : decode cL_isTimer 39 = .ok (.iload 5, 2) := by decide +kernel
theorem dL_isTimer_41 : decode cL_isTimer 41 = .ok (.iload 4, 2) := by decide +kernel
theorem dL_isTimer_43 : decode cL_isTimer 43 = .ok (.bipush 6, 2) := by decide +kernel
theorem dL_isTimer_45 : decode cL_isTimer 45 = .ok (.if_icmp .ne 8, 3) := by decide +kernel
theorem dL_isTimer_48 : decode cL_isTimer 48 = .ok (.bipush (-4), 2) := by decide +kernel
theorem dL_isTimer_50 : decode cL_isTimer 50 = .ok (.goto 5, 3) := by decide +kernel
theorem dL_isTimer_53 : decode cL_isTimer 53 = .ok (.bipush (-5), 2) := by decide +kernel
theorem dL_isTimer_55 : decode cL_isTimer 55 = .ok (.if_icmp .ne 17, 3) := by decide +kernel
theorem dL_isTimer_58 : decode cL_isTimer 58 = .ok (.aload_n 0, 1) := by decide +kernel
theorem dL_isTimer_59 : decode cL_isTimer 59 = .ok (.iconst 2, 1) := by decide +kernel
theorem dL_isTimer_60 : decode cL_isTimer 60 = .ok (.invokevirtual 14, 3) := by decide +kernel
theorem dL_isTimer_63 : decode cL_isTimer 63 = .ok (.iload 4, 2) := by decide +kernel
theorem dL_isTimer_65 : decode cL_isTimer 65 = .ok (.if_icmp .ne 7, 3) := by decide +kernel
theorem dL_isTimer_68 : decode cL_isTimer 68 = .ok (.iconst 1, 1) := by decide +kernel
theorem dL_isTimer_69 : decode cL_isTimer 69 = .ok (.goto 4, 3) := by decide +kernel
theorem dL_isTimer_72 : decode cL_isTimer 72 = .ok (.iconst 0, 1) := by decide +kernel
theorem dL_isTimer_73 : decode cL_isTimer 73 = .ok (.ireturn, 1) := by decide +kernel
theorem dL_isTimer_74 : decode cL_isTimer 74 = .ok (.iload 5, 2) := by decide +kernel
theorem dL_isTimer_76 : decode cL_isTimer 76 = .ok (.iload 4, 2) := by decide +kernel
theorem dL_isTimer_78 : decode cL_isTimer 78 = .ok (.if_icmp .ne 46, 3) := by decide +kernel
theorem dL_isTimer_81 : decode cL_isTimer 81 = .ok (.aload_n 0, 1) := by decide +kernel
theorem dL_isTimer_82 : decode cL_isTimer 82 = .ok (.iload 4, 2) := by decide +kernel
theorem dL_isTimer_84 : decode cL_isTimer 84 = .ok (.iconst 0, 1) := by decide +kernel
theorem dL_isTimer_85 : decode cL_isTimer 85 = .ok (.invokevirtual 27, 3) := by decide +kernel
theorem dL_isTimer_88 : decode cL_isTimer 88 = .ok (.iload_n 1, 1) := by decide +kernel
theorem dL_isTimer_89 : decode cL_isTimer 89 = .ok (.if_icmp .ne 35, 3) := by decide +kernel
theorem dL_isTimer_92 : decode cL_isTimer 92 = .ok (.aload_n 0, 1) := by decide +kernel
theorem dL_isTimer_93 : decode cL_isTimer 93 = .ok (.iload 4, 2) := by decide +kernel
theorem dL_isTimer_95 : decode cL_isTimer 95 = .ok (.iconst 1, 1) := by decide +kernel
theorem dL_isTimer_96 : decode cL_isTimer 96 = .ok (.invokevirtual 27, 3) := by decide +kernel
theorem dL_isTimer_99 : decode cL_isTimer 99 = .ok (.iload_n 2, 1) := by decide +kernel
theorem dL_isTimer_100 : decode cL_isTimer 100 = .ok (.if_icmp .ne 24, 3) := by decide +kernel
theorem dL_isTimer_103 : decode cL_isTimer 103 = .ok (.aload_n 0, 1) := by decide +kernel
theorem dL_isTimer_104 : decode cL_isTimer 104 = .ok (.iload 4, 2) := by decide +kernel
theorem dL_isTimer_106 : decode cL_isTimer 106 = .ok (.iconst 2, 1) := by decide +kernel
theorem dL_isTimer_107 : decode cL_isTimer 107 = .ok (.invokevirtual 27, 3) := by decide +kernel
theorem dL_isTimer_110 : decode cL_isTimer 110 = .ok (.aload_n 0, 1) := by decide +kernel
theorem dL_isTimer_111 : decode cL_isTimer 111 = .ok (.iconst 0, 1) := by decide +kernel
theorem dL_isTimer_112 : decode cL_isTimer 112 = .ok (.invokevirtual 14, 3) := by decide +kernel
theorem dL_isTimer_115 : decode cL_isTimer 115 = .ok (.iload_n 3, 1) := by decide +kernel
theorem dL_isTimer_116 : decode cL_isTimer 116 = .ok (.iadd, 1) := by decide +kernel
theorem dL_isTimer_117 : decode cL_isTimer 117 = .ok (.if_icmp .ne 7, 3) := by decide +kernel
theorem dL_isTimer_120 : decode cL_isTimer 120 = .ok (.iconst 1, 1) := by decide +kernel
theorem dL_isTimer_121 : decode cL_isTimer 121 = .ok (.goto 4, 3) := by decide +kernel
theorem dL_isTimer_124 : decode cL_isTimer 124 = .ok (.iconst 0, 1) := by decide +kernel
theorem dL_isTimer_125 : decode cL_isTimer 125 = .ok (.ireturn, 1) := by decide +kernel
theorem dL_isAct_0 : decode cL_isAct 0 = .ok (.aload_n 1, 1) := by decide +kernel
theorem dL_isAct_1 : decode cL_isAct 1 = .ok (.iload_n 2, 1) := by decide +kernel
theorem dL_isAct_2 : decode cL_isAct 2 = .ok (.iconst 1, 1) := by decide +kernel
theorem dL_isAct_3 : decode cL_isAct 3 = .ok (.iadd, 1) := by decide +kernel
theorem dL_isAct_4 : decode cL_isAct 4 = .ok (.aload_n 0, 1) := by decide +kernel
theorem dL_isAct_5 : decode cL_isAct 5 = .ok (.iconst 1, 1) := by decide +kernel
theorem dL_isAct_6 : decode cL_isAct 6 = .ok (.invokevirtual 14, 3) := by decide +kernel
theorem dL_isAct_9 : decode cL_isAct 9 = .ok (.invokestatic 47, 3) := by decide +kernel
theorem dL_isAct_12 : decode cL_isAct 12 = .ok (.istore_n 3, 1) := by decide +kernel
theorem dL_isAct_13 : decode cL_isAct 13 = .ok (.aload_n 1, 1) := by decide +kernel
theorem dL_isAct_14 : decode cL_isAct 14 = .ok (.iload_n 2, 1) := by decide +kernel
theorem dL_isAct_15 : decode cL_isAct 15 = .ok (.bipush 20, 2) := by decide +kernel
theorem dL_isAct_17 : decode cL_isAct 17 = .ok (.invokestatic 47, 3) := by decide +kernel
theorem dL_isAct_20 : decode cL_isAct 20 = .ok (.tableswitch 408 0 10 #[60, 60, 60, 66, 66, 66, 96, 143, 169, 260, 374], 60) := by decide +kernel
theorem dL_isAct_80 : decode cL_isAct 80 = .ok (.aload_n 0, 1) := by decide +kernel
theorem dL_isAct_81 : decode cL_isAct 81 = .ok (.iload_n 3, 1) := by decide +kernel
theorem dL_isAct_82 : decode cL_isAct 82 = .ok (.invokestatic 51, 3) := by decide +kernel
theorem dL_isAct_85 : decode cL_isAct 85 = .ok (.ireturn, 1) := by decide +kernel
theorem dL_isAct_86 : decode cL_isAct 86 = .ok (.aload_n 0, 1) := by decide +kernel
theorem dL_isAct_87 : decode cL_isAct 87 = .ok (.iload_n 3, 1) := by decide +kernel
theorem dL_isAct_88 : decode cL_isAct 88 = .ok (.aload_n 1, 1) := by decide +kernel
theorem dL_isAct_89 : decode cL_isAct 89 = .ok (.iload_n 2, 1) := by decide +kernel
theorem dL_isAct_90 : decode cL_isAct 90 = .ok (.iconst 2, 1) := by decide +kernel
theorem dL_isAct_91 : decode cL_isAct 91 = .ok (.iadd, 1) := by decide +kernel
theorem dL_isAct_92 : decode cL_isAct 92 = .ok (.iconst 4, 1) := by decide +kernel
theorem dL_isAct_93 : decode cL_isAct 93 = .ok (.invokestatic 47, 3) := by decide +kernel
theorem dL_isAct_96 : decode cL_isAct 96 = .ok (.aload_n 1, 1) := by decide +kernel
theorem dL_isAct_97 : decode cL_isAct 97 = .ok (.iload_n 2, 1) := by decide +kernel
theorem dL_isAct_98 : decode cL_isAct 98 = .ok (.iconst 3, 1) := by decide +kernel
theorem dL_isAct_99 : decode cL_isAct 99 = .ok (.iadd, 1) := by decide +kernel
theorem dL_isAct_100 : decode cL_isAct 100 = .ok (.iconst 4, 1) := by decide +kernel
theorem dL_isAct_101 : decode cL_isAct 101 = .ok (.invokestatic 47, 3) := by decide +kernel
theorem dL_isAct_104 : decode cL_isAct 104 = .ok (.ifCond .ne 7, 3) := by decide +kernel
theorem dL_isAct_107 : decode cL_isAct 107 = .ok (.iconst 0, 1) := by decide +kernel
theorem dL_isAct_108 : decode cL_isAct 108 = .ok (.goto 4, 3) := by decide +kernel
theorem dL_isAct_111 : decode cL_isAct 111 = .ok (.iconst 1, 1) := by decide +kernel
theorem dL_isAct_112 : decode cL_isAct 112 = .ok (.invokestatic 55, 3) := by decide +kernel
theorem dL_isAct_115 : decode cL_isAct 115 = .ok (.ireturn, 1) := by decide +kernel
theorem dL_isAct_116 : decode cL_isAct 116 = .ok (.aload_n 1, 1) := by decide +kernel
theorem dL_isAct_117 : decode cL_isAct 117 = .ok (.iload_n 2, 1) := by decide +kernel
theorem dL_isAct_118 : decode cL_isAct 118 = .ok (.iconst 2, 1) := by decide +kernel
theorem dL_isAct_119 : decode cL_isAct 119 = .ok (.iadd, 1) := by decide +kernel
theorem dL_isAct_120 : decode cL_isAct 120 = .ok (.iconst 2, 1) := by decide +kernel
theorem dL_isAct_121 : decode cL_isAct 121 = .ok (.invokestatic 47, 3) := by decide +kernel
theorem dL_isAct_124 : decode cL_isAct 124 = .ok (.istore 4, 2) := by decide +kernel
theorem dL_isAct_126 : decode cL_isAct 126 = .ok (.aload_n 0, 1) := by decide +kernel
theorem dL_isAct_127 : decode cL_isAct 127 = .ok (.iload_n 3, 1) := by decide +kernel
theorem dL_isAct_128 : decode cL_isAct 128 = .ok (.iconst 4, 1) := by decide +kernel
theorem dL_isAct_129 : decode cL_isAct 129 = .ok (.invokevirtual 8, 3) := by decide +kernel
theorem dL_isAct_132 : decode cL_isAct 132 = .ok (.istore 5, 2) := by decide +kernel
theorem dL_isAct_134 : decode cL_isAct 134 = .ok (.aload_n 0, 1) := by decide +kernel
theorem dL_isAct_135 : decode cL_isAct 135 = .ok (.iload_n 3, 1) := by decide +kernel
theorem dL_isAct_136 : decode cL_isAct 136 = .ok (.iload 4, 2) := by decide +kernel
theorem dL_isAct_138 : decode cL_isAct 138 = .ok (.invokevirtual 59, 3) := by decide +kernel
theorem dL_isAct_141 : decode cL_isAct 141 = .ok (.iload 5, 2) := by decide +kernel
theorem dL_isAct_143 : decode cL_isAct 143 = .ok (.if_icmp .ne 18, 3) := by decide +kernel
theorem dL_isAct_146 : decode cL_isAct 146 = .ok (.aload_n 0, 1) := by decide +kernel
theorem dL_isAct_147 : decode cL_isAct 147 = .ok (.iload_n 3, 1) := by decide +kernel
theorem dL_isAct_148 : decode cL_isAct 148 = .ok (.iconst 4, 1) := by decide +kernel
theorem dL_isAct_149 : decode cL_isAct 149 = .ok (.invokevirtual 8, 3) := by decide +kernel
theorem dL_isAct_152 : decode cL_isAct 152 = .ok (.iload 4, 2) := by decide +kernel
theorem dL_isAct_154 : decode cL_isAct 154 = .ok (.if_icmp .ne 7, 3) := by decide +kernel
theorem dL_isAct_157 : decode cL_isAct 157 = .ok (.iconst 1, 1) := by decide +kernel
theorem dL_isAct_158 : decode cL_isAct 158 = .ok (.goto 4, 3) := by decide +kernel
theorem dL_isAct_161 : decode cL_isAct 161 = .ok (.iconst 0, 1) := by decide +kernel
theorem dL_isAct_162 : decode cL_isAct 162 = .ok (.ireturn, 1) := by decide +kernel
theorem dL_isAct_163 : decode cL_isAct 163 = .ok (.aload_n 0, 1) := by decide +kernel
theorem dL_isAct_164 : decode cL_isAct 164 = .ok (.iload_n 3, 1) := by decide +kernel
theorem dL_isAct_165 : decode cL_isAct 165 = .ok (.iconst 1, 1) := by decide +kernel
theorem dL_isAct_166 : decode cL_isAct 166 = .ok (.aload_n 1, 1) := by decide +kernel
theorem dL_isAct_167 : decode cL_isAct 167 = .ok (.iload_n 2, 1) := by decide +kernel
theorem dL_isAct_168 : decode cL_isAct 168 = .ok (.iconst 2, 1) := by decide +kernel
theorem dL_isAct_169 : decode cL_isAct 169 = .ok (.iadd, 1) := by decide +kernel
theorem dL_isAct_170 : decode cL_isAct 170 = .ok (.bipush 30, 2) := by decide +kernel
theorem dL_isAct_172 : decode cL_isAct 172 = .ok (.invokestatic 47, 3) := by decide +kernel
theorem dL_isAct_175 : decode cL_isAct 175 = .ok (.iadd, 1) := by decide +kernel
theorem dL_isAct_176 : decode cL_isAct 176 = .ok (.aload_n 1, 1) := by decide +kernel
theorem dL_isAct_177 : decode cL_isAct 177 = .ok (.iload_n 2, 1) := by decide +kernel
theorem dL_isAct_178 : decode cL_isAct 178 = .ok (.iconst 3, 1) := by decide +kernel
theorem dL_isAct_179 : decode cL_isAct 179 = .ok (.iadd, 1) := by decide +kernel
theorem dL_isAct_180 : decode cL_isAct 180 = .ok (.bipush 20, 2) := by decide +kernel
theorem dL_isAct_182 : decode cL_isAct 182 = .ok (.invokestatic 47, 3) := by decide +kernel
theorem dL_isAct_185 : decode cL_isAct 185 = .ok (.invokestatic 62, 3) := by decide +kernel
theorem dL_isAct_188 : decode cL_isAct 188 = .ok (.ireturn, 1) := by decide +kernel
theorem dL_isAct_189 : decode cL_isAct 189 = .ok (.aload_n 0, 1) := by decide +kernel
theorem dL_isAct_190 : decode cL_isAct 190 = .ok (.iload_n 3, 1) := by decide +kernel
theorem dL_isAct_191 : decode cL_isAct 191 = .ok (.iconst 0, 1) := by decide +kernel
theorem dL_isAct_192 : decode cL_isAct 192 = .ok (.invokevirtual 8, 3) := by decide +kernel
theorem dL_isAct_195 : decode cL_isAct 195 = .ok (.istore 6, 2) := by decide +kernel
theorem dL_isAct_197 : decode cL_isAct 197 = .ok (.aload_n 0, 1) := by decide +kernel
theorem dL_isAct_198 : decode cL_isAct 198 = .ok (.iload_n 3, 1) := by decide +kernel
theorem dL_isAct_199 : decode cL_isAct 199 = .ok (.aload_n 1, 1) := by decide +kernel
theorem dL_isAct_200 : decode cL_isAct 200 = .ok (.iload_n 2, 1) := by decide +kernel
theorem dL_isAct_201 : decode cL_isAct 201 = .ok (.iconst 2, 1) := by decide +kernel
theorem dL_isAct_202 : decode cL_isAct 202 = .ok (.iadd, 1) := by decide +kernel
theorem dL_isAct_203 : decode cL_isAct 203 = .ok (.bipush 16, 2) := by decide +kernel
theorem dL_isAct_205 : decode cL_isAct 205 = .ok (.invokestatic 47, 3) := by decide +kernel
theorem dL_isAct_208 : decode cL_isAct 208 = .ok (.iconst 1, 1) := by decide +kernel
theorem dL_isAct_209 : decode cL_isAct 209 = .ok (.aload_n 1, 1) := by decide +kernel
theorem dL_isAct_210 : decode cL_isAct 210 = .ok (.iload_n 2, 1) := by decide +kernel
theorem dL_isAct_211 : decode cL_isAct 211 = .ok (.iconst 3, 1) := by decide +kernel
theorem dL_isAct_212 : decode cL_isAct 212 = .ok (.iadd, 1) := by decide +kernel
theorem dL_isAct_213 : decode cL_isAct 213 = .ok (.bipush 6, 2) := by decide +kernel
theorem dL_isAct_215 : decode cL_isAct 215 = .ok (.invokestatic 47, 3) := by decide +kernel
theorem dL_isAct_218 : decode cL_isAct 218 = .ok (.iadd, 1) := by decide +kernel
theorem dL_isAct_219 : decode cL_isAct 219 = .ok (.aload_n 1, 1) := by decide +kernel
theorem dL_isAct_220 : decode cL_isAct 220 = .ok (.iload_n 2, 1) := by decide +kernel
theorem dL_isAct_221 : decode cL_isAct 221 = .ok (.iconst 4, 1) := by decide +kernel
theorem dL_isAct_222 : decode cL_isAct 222 = .ok (.iadd, 1) := by decide +kernel
theorem dL_isAct_223 : decode cL_isAct 223 = .ok (.bipush 30, 2) := by decide +kernel
theorem dL_isAct_225 : decode cL_isAct 225 = .ok (.invokestatic 47, 3) := by decide +kernel
theorem dL_isAct_228 : decode cL_isAct 228 = .ok (.invokevirtual 65, 3) := by decide +kernel
theorem dL_isAct_231 : decode cL_isAct 231 = .ok (.iload 6, 2) := by decide +kernel
theorem dL_isAct_233 : decode cL_isAct 233 = .ok (.if_icmp .ne 45, 3) := by decide +kernel
theorem dL_isAct_236 : decode cL_isAct 236 = .ok (.aload_n 0, 1) := by decide +kernel
theorem dL_isAct_237 : decode cL_isAct 237 = .ok (.iload_n 3, 1) := by decide +kernel
theorem dL_isAct_238 : decode cL_isAct 238 = .ok (.iconst 0, 1) := by decide +kernel
theorem dL_isAct_239 : decode cL_isAct 239 = .ok (.invokevirtual 8, 3) := by decide +kernel
theorem dL_isAct_242 : decode cL_isAct 242 = .ok (.aload_n 1, 1) := by decide +kernel
theorem dL_isAct_243 : decode cL_isAct 243 = .ok (.iload_n 2, 1) := by decide +kernel
theorem dL_isAct_244 : decode cL_isAct 244 = .ok (.iconst 2, 1) := by decide +kernel
theorem dL_isAct_245 : decode cL_isAct 245 = .ok (.iadd, 1) := by decide +kernel
theorem dL_isAct_246 : decode cL_isAct 246 = .ok (.bipush 16, 2) := by decide +kernel
theorem dL_isAct_248 : decode cL_isAct 248 = .ok (.invokestatic 47, 3) := by decide +kernel
theorem dL_isAct_251 : decode cL_isAct 251 = .ok (.if_icmp .ne 27, 3) := by decide +kernel
theorem dL_isAct_254 : decode cL_isAct 254 = .ok (.aload_n 0, 1) := by decide +kernel
theorem dL_isAct_255 : decode cL_isAct 255 = .ok (.iload_n 3, 1) := by decide +kernel
theorem dL_isAct_256 : decode cL_isAct 256 = .ok (.iconst 1, 1) := by decide +kernel
theorem dL_isAct_257 : decode cL_isAct 257 = .ok (.invokevirtual 8, 3) := by decide +kernel
theorem dL_isAct_260 : decode cL_isAct 260 = .ok (.iconst 1, 1) := by decide +kernel
theorem dL_isAct_261 : decode cL_isAct 261 = .ok (.aload_n 1, 1) := by decide +kernel
theorem dL_isAct_262 : decode cL_isAct 262 = .ok (.iload_n 2, 1) := by decide +kernel
theorem dL_isAct_263 : decode cL_isAct 263 = .ok (.iconst 3, 1) := by decide +kernel
theorem dL_isAct_264 : decode cL_isAct 264 = .ok (.iadd, 1) := by decide +kernel
theorem dL_isAct_265 : decode cL_isAct 265 = .ok (.bipush 6, 2) := by decide +kernel
theorem dL_isAct_267 : decode cL_isAct 267 = .ok (.invokestatic 47, 3) := by decide +kernel
theorem dL_isAct_270 : decode cL_isAct 270 = .ok (.iadd, 1) := by decide +kernel
theorem dL_isAct_271 : decode cL_isAct 271 = .ok (.if_icmp .ne 7, 3) := by decide +kernel
theorem dL_isAct_274 : decode cL_isAct 274 = .ok (.iconst 1, 1) := by decide +kernel
theorem dL_isAct_275 : decode cL_isAct 275 = .ok (.goto 4, 3) := by decide +kernel
theorem dL_isAct_278 : decode cL_isAct 278 = .ok (.iconst 0, 1) := by decide +kernel
theorem dL_isAct_279 : decode cL_isAct 279 = .ok (.ireturn, 1) := by decide +kernel
theorem dL_isAct_280 : decode cL_isAct 280 = .ok (.aload_n 1, 1) := by decide +kernel
theorem dL_isAct_281 : decode cL_isAct 281 = .ok (.iload_n 2, 1) := by decide +kernel
theorem dL_isAct_282 : decode cL_isAct 282 = .ok (.iconst 2, 1) := by decide +kernel
theorem dL_isAct_283 : decode cL_isAct 283 = .ok (.iadd, 1) := by decide +kernel
theorem dL_isAct_284 : decode cL_isAct 284 = .ok (.iconst 4, 1) := by decide +kernel
theorem dL_isAct_285 : decode cL_isAct 285 = .ok (.invokestatic 47, 3) := by decide +kernel
theorem dL_isAct_288 : decode cL_isAct 288 = .ok (.istore 7, 2) := by decide +kernel
theorem dL_isAct_290 : decode cL_isAct 290 = .ok (.iload 7, 2) := by decide +kernel
theorem dL_isAct_292 : decode cL_isAct 292 = .ok (.ifCond .ne 7, 3) := by decide +kernel
theorem dL_isAct_295 : decode cL_isAct 295 = .ok (.iconst 0, 1) := by decide +kernel
theorem dL_isAct_296 : decode cL_isAct 296 = .ok (.goto 25, 3) := by decide +kernel
theorem dL_isAct_299 : decode cL_isAct 299 = .ok (.iload 7, 2) := by decide +kernel
theorem dL_isAct_301 : decode cL_isAct 301 = .ok (.iconst 1, 1) := by decide +kernel
theorem dL_isAct_302 : decode cL_isAct 302 = .ok (.if_icmp .ne 7, 3) := by decide +kernel
theorem dL_isAct_305 : decode cL_isAct 305 = .ok (.iconst 2, 1) := by decide +kernel
theorem dL_isAct_306 : decode cL_isAct 306 = .ok (.goto 15, 3) := by decide +kernel
theorem dL_isAct_309 : decode cL_isAct 309 = .ok (.iload 7, 2) := by decide +kernel
theorem dL_isAct_311 : decode cL_isAct 311 = .ok (.iconst 2, 1) := by decide +kernel
theorem dL_isAct_312 : decode cL_isAct 312 = .ok (.if_icmp .ne 7, 3) := by decide +kernel
theorem dL_isAct_315 : decode cL_isAct 315 = .ok (.iconst 3, 1) := by decide +kernel
theorem dL_isAct_316 : decode cL_isAct 316 = .ok (.goto 5, 3) := by decide +kernel
theorem dL_isAct_319 : decode cL_isAct 319 = .ok (.bipush 6, 2) := by decide +kernel
theorem dL_isAct_321 : decode cL_isAct 321 = .ok (.istore 8, 2) := by decide +kernel
theorem dL_isAct_323 : decode cL_isAct 323 = .ok (.iload 7, 2) := by decide +kernel
theorem dL_isAct_325 : decode cL_isAct 325 = .ok (.iconst 3, 1) := by decide +kernel
theorem dL_isAct_326 : decode cL_isAct 326 = .ok (.if_icmp .ne 15, 3) := by decide +kernel
theorem dL_isAct_329 : decode cL_isAct 329 = .ok (.aload_n 1, 1) := by decide +kernel
theorem dL_isAct_330 : decode cL_isAct 330 = .ok (.iload_n 2, 1) := by decide +kernel
theorem dL_isAct_331 : decode cL_isAct 331 = .ok (.iconst 3, 1) := by decide +kernel
theorem dL_isAct_332 : decode cL_isAct 332 = .ok (.iadd, 1) := by decide +kernel
theorem dL_isAct_333 : decode cL_isAct 333 = .ok (.bipush 12, 2) := by decide +kernel
theorem dL_isAct_335 : decode cL_isAct 335 = .ok (.invokestatic 47, 3) := by decide +kernel
theorem dL_isAct_338 : decode cL_isAct 338 = .ok (.goto 23, 3) := by decide +kernel
theorem dL_isAct_341 : decode cL_isAct 341 = .ok (.iconst 1, 1) := by decide +kernel
theorem dL_isAct_342 : decode cL_isAct 342 = .ok (.aload_n 1, 1) := by decide +kernel
theorem dL_isAct_343 : decode cL_isAct 343 = .ok (.iload_n 2, 1) := by decide +kernel
theorem dL_isAct_344 : decode cL_isAct 344 = .ok (.iconst 3, 1) := by decide +kernel
theorem dL_isAct_345 : decode cL_isAct 345 = .ok (.iadd, 1) := by decide +kernel
theorem dL_isAct_346 : decode cL_isAct 346 = .ok (.iload 7, 2) := by decide +kernel
theorem dL_isAct_348 : decode cL_isAct 348 = .ok (.ifCond .ne 8, 3) := by decide +kernel
theorem dL_isAct_351 : decode cL_isAct 351 = .ok (.bipush 9, 2) := by decide +kernel
theorem dL_isAct_353 : decode cL_isAct 353 = .ok (.goto 4, 3) := by decide +kernel
theorem dL_isAct_356 : decode cL_isAct 356 = .ok (.iconst 3, 1) := by decide +kernel
theorem dL_isAct_357 : decode cL_isAct 357 = .ok (.invokestatic 47, 3) := by decide +kernel
theorem dL_isAct_360 : decode cL_isAct 360 = .ok (.iadd, 1) := by decide +kernel
theorem dL_isAct_361 : decode cL_isAct 361 = .ok (.istore 9, 2) := by decide +kernel
theorem dL_isAct_363 : decode cL_isAct 363 = .ok (.aload_n 0, 1) := by decide +kernel
theorem dL_isAct_364 : decode cL_isAct 364 = .ok (.iload 8, 2) := by decide +kernel
theorem dL_isAct_366 : decode cL_isAct 366 = .ok (.iload 9, 2) := by decide +kernel
theorem dL_isAct_368 : decode cL_isAct 368 = .ok (.invokevirtual 69, 3) := by decide +kernel
theorem dL_isAct_371 : decode cL_isAct 371 = .ok (.ifCond .lt 21, 3) := by decide +kernel
theorem dL_isAct_374 : decode cL_isAct 374 = .ok (.aload_n 0, 1) := by decide +kernel
theorem dL_isAct_375 : decode cL_isAct 375 = .ok (.bipush 12, 2) := by decide +kernel
theorem dL_isAct_377 : decode cL_isAct 377 = .ok (.iload 8, 2) := by decide +kernel
theorem dL_isAct_379 : decode cL_isAct 379 = .ok (.iadd, 1) := by decide +kernel
theorem dL_isAct_380 : decode cL_isAct 380 = .ok (.invokevirtual 14, 3) := by decide +kernel
theorem dL_isAct_383 : decode cL_isAct 383 = .ok (.iload 9, 2) := by decide +kernel
theorem dL_isAct_385 : decode cL_isAct 385 = .ok (.if_icmp .ne 7, 3) := by decide +kernel
theorem dL_isAct_388 : decode cL_isAct 388 = .ok (.iconst 1, 1) := by decide +kernel
theorem dL_isAct_389 : decode cL_isAct 389 = .ok (.goto 4, 3) := by decide +kernel
theorem dL_isAct_392 : decode cL_isAct 392 = .ok (.iconst 0, 1) := by decide +kernel
theorem dL_isAct_393 : decode cL_isAct 393 = .ok (.ireturn, 1) := by decide +kernel
theorem dL_isAct_394 : decode cL_isAct 394 = .ok (.aload_n 0, 1) := by decide +kernel
theorem dL_isAct_395 : decode cL_isAct 395 = .ok (.iconst 2, 1) := by decide +kernel
theorem dL_isAct_396 : decode cL_isAct 396 = .ok (.invokevirtual 14, 3) := by decide +kernel
theorem dL_isAct_399 : decode cL_isAct 399 = .ok (.istore 10, 2) := by decide +kernel
theorem dL_isAct_401 : decode cL_isAct 401 = .ok (.aload_n 0, 1) := by decide +kernel
theorem dL_isAct_402 : decode cL_isAct 402 = .ok (.iconst 0, 1) := by decide +kernel
theorem dL_isAct_403 : decode cL_isAct 403 = .ok (.invokevirtual 72, 3) := by decide +kernel
theorem dL_isAct_406 : decode cL_isAct 406 = .ok (.iload 10, 2) := by decide +kernel
theorem dL_isAct_408 : decode cL_isAct 408 = .ok (.ifCond .ne 7, 3) := by decide +kernel
theorem dL_isAct_411 : decode cL_isAct 411 = .ok (.iconst (-1), 1) := by decide +kernel
theorem dL_isAct_412 : decode cL_isAct 412 = .ok (.goto 7, 3) := by decide +kernel
theorem dL_isAct_415 : decode cL_isAct 415 = .ok (.iload 10, 2) := by decide +kernel
theorem dL_isAct_417 : decode cL_isAct 417 = .ok (.iconst 1, 1) := by decide +kernel
theorem dL_isAct_418 : decode cL_isAct 418 = .ok (.isub, 1) := by decide +kernel
theorem dL_isAct_419 : decode cL_isAct 419 = .ok (.if_icmp .ne 7, 3) := by decide +kernel
theorem dL_isAct_422 : decode cL_isAct 422 = .ok (.iconst 1, 1) := by decide +kernel
theorem dL_isAct_423 : decode cL_isAct 423 = .ok (.goto 4, 3) := by decide +kernel
theorem dL_isAct_426 : decode cL_isAct 426 = .ok (.iconst 0, 1) := by decide +kernel
theorem dL_isAct_427 : decode cL_isAct 427 = .ok (.ireturn, 1) := by decide +kernel
theorem dL_isAct_428 : decode cL_isAct 428 = .ok (.aload_n 0, 1) := by decide +kernel
theorem dL_isAct_429 : decode cL_isAct 429 = .ok (.invokestatic 75, 3) := by decide +kernel
theorem dL_isAct_432 : decode cL_isAct 432 = .ok (.ireturn, 1) := by decide +kernel
theorem dL_law_0 : decode cL_law 0 = .ok (.new 9, 3) := by decide +kernel
theorem dL_law_3 : decode cL_law 3 = .ok (.dup, 1) := by decide +kernel
theorem dL_law_4 : decode cL_law 4 = .ok (.invokespecial 79, 3) := by decide +kernel
theorem dL_law_7 : decode cL_law 7 = .ok (.astore_n 1, 1) := by decide +kernel
theorem dL_law_8 : decode cL_law 8 = .ok (.aload_n 1, 1) := by decide +kernel
theorem dL_law_9 : decode cL_law 9 = .ok (.iconst 0, 1) := by decide +kernel
theorem dL_law_10 : decode cL_law 10 = .ok (.aload_n 0, 1) := by decide +kernel
theorem dL_law_11 : decode cL_law 11 = .ok (.iconst 0, 1) := by decide +kernel
theorem dL_law_12 : decode cL_law 12 = .ok (.bipush 8, 2) := by decide +kernel
theorem dL_law_14 : decode cL_law 14 = .ok (.invokestatic 47, 3) := by decide +kernel
theorem dL_law_17 : decode cL_law 17 = .ok (.invokevirtual 69, 3) := by decide +kernel
theorem dL_law_20 : decode cL_law 20 = .ok (.pop, 1) := by decide +kernel
theorem dL_law_21 : decode cL_law 21 = .ok (.aload_n 1, 1) := by decide +kernel
theorem dL_law_22 : decode cL_law 22 = .ok (.iconst 1, 1) := by decide +kernel
theorem dL_law_23 : decode cL_law 23 = .ok (.bipush 8, 2) := by decide +kernel
theorem dL_law_25 : decode cL_law 25 = .ok (.aload_n 0, 1) := by decide +kernel
theorem dL_law_26 : decode cL_law 26 = .ok (.iconst 1, 1) := by decide +kernel
theorem dL_law_27 : decode cL_law 27 = .ok (.bipush 20, 2) := by decide +kernel
theorem dL_law_29 : decode cL_law 29 = .ok (.invokestatic 47, 3) := by decide +kernel
theorem dL_law_32 : decode cL_law 32 = .ok (.iadd, 1) := by decide +kernel
theorem dL_law_33 : decode cL_law 33 = .ok (.invokevirtual 69, 3) := by decide +kernel
theorem dL_law_36 : decode cL_law 36 = .ok (.pop, 1) := by decide +kernel
theorem dL_law_37 : decode cL_law 37 = .ok (.aload_n 1, 1) := by decide +kernel
theorem dL_law_38 : decode cL_law 38 = .ok (.iconst 4, 1) := by decide +kernel
theorem dL_law_39 : decode cL_law 39 = .ok (.aload_n 0, 1) := by decide +kernel
theorem dL_law_40 : decode cL_law 40 = .ok (.iconst 2, 1) := by decide +kernel
theorem dL_law_41 : decode cL_law 41 = .ok (.iconst 3, 1) := by decide +kernel
theorem dL_law_42 : decode cL_law 42 = .ok (.invokestatic 47, 3) := by decide +kernel
theorem dL_law_45 : decode cL_law 45 = .ok (.invokevirtual 69, 3) := by decide +kernel
theorem dL_law_48 : decode cL_law 48 = .ok (.pop, 1) := by decide +kernel
theorem dL_law_49 : decode cL_law 49 = .ok (.aload_n 1, 1) := by decide +kernel
theorem dL_law_50 : decode cL_law 50 = .ok (.iconst 5, 1) := by decide +kernel
theorem dL_law_51 : decode cL_law 51 = .ok (.aload_n 0, 1) := by decide +kernel
theorem dL_law_52 : decode cL_law 52 = .ok (.iconst 3, 1) := by decide +kernel
theorem dL_law_53 : decode cL_law 53 = .ok (.iconst 2, 1) := by decide +kernel
theorem dL_law_54 : decode cL_law 54 = .ok (.invokestatic 47, 3) := by decide +kernel
theorem dL_law_57 : decode cL_law 57 = .ok (.invokevirtual 69, 3) := by decide +kernel
theorem dL_law_60 : decode cL_law 60 = .ok (.pop, 1) := by decide +kernel
theorem dL_law_61 : decode cL_law 61 = .ok (.iconst 2, 1) := by decide +kernel
theorem dL_law_62 : decode cL_law 62 = .ok (.aload_n 0, 1) := by decide +kernel
theorem dL_law_63 : decode cL_law 63 = .ok (.iconst 4, 1) := by decide +kernel
theorem dL_law_64 : decode cL_law 64 = .ok (.iconst 5, 1) := by decide +kernel
theorem dL_law_65 : decode cL_law 65 = .ok (.invokestatic 47, 3) := by decide +kernel
theorem dL_law_68 : decode cL_law 68 = .ok (.iadd, 1) := by decide +kernel
theorem dL_law_69 : decode cL_law 69 = .ok (.istore_n 2, 1) := by decide +kernel
theorem dL_law_70 : decode cL_law 70 = .ok (.iconst 0, 1) := by decide +kernel
theorem dL_law_71 : decode cL_law 71 = .ok (.istore_n 3, 1) := by decide +kernel
theorem dL_law_72 : decode cL_law 72 = .ok (.iload_n 3, 1) := by decide +kernel
theorem dL_law_73 : decode cL_law 73 = .ok (.iload_n 2, 1) := by decide +kernel
theorem dL_law_74 : decode cL_law 74 = .ok (.if_icmp .ge 75, 3) := by decide +kernel
theorem dL_law_77 : decode cL_law 77 = .ok (.aload_n 1, 1) := by decide +kernel
theorem dL_law_78 : decode cL_law 78 = .ok (.aload_n 0, 1) := by decide +kernel
theorem dL_law_79 : decode cL_law 79 = .ok (.iconst 5, 1) := by decide +kernel
theorem dL_law_80 : decode cL_law 80 = .ok (.iload_n 3, 1) := by decide +kernel
theorem dL_law_81 : decode cL_law 81 = .ok (.iadd, 1) := by decide +kernel
theorem dL_law_82 : decode cL_law 82 = .ok (.bipush 12, 2) := by decide +kernel
theorem dL_law_84 : decode cL_law 84 = .ok (.invokestatic 47, 3) := by decide +kernel
theorem dL_law_87 : decode cL_law 87 = .ok (.iconst 1, 1) := by decide +kernel
theorem dL_law_88 : decode cL_law 88 = .ok (.aload_n 0, 1) := by decide +kernel
theorem dL_law_89 : decode cL_law 89 = .ok (.bipush 12, 2) := by decide +kernel
theorem dL_law_91 : decode cL_law 91 = .ok (.iload_n 3, 1) := by decide +kernel
theorem dL_law_92 : decode cL_law 92 = .ok (.iadd, 1) := by decide +kernel
theorem dL_law_93 : decode cL_law 93 = .ok (.bipush 6, 2) := by decide +kernel
theorem dL_law_95 : decode cL_law 95 = .ok (.invokestatic 47, 3) := by decide +kernel
theorem dL_law_98 : decode cL_law 98 = .ok (.iadd, 1) := by decide +kernel
theorem dL_law_99 : decode cL_law 99 = .ok (.aload_n 0, 1) := by decide +kernel
theorem dL_law_100 : decode cL_law 100 = .ok (.bipush 19, 2) := by decide +kernel
theorem dL_law_102 : decode cL_law 102 = .ok (.iload_n 3, 1) := by decide +kernel
theorem dL_law_103 : decode cL_law 103 = .ok (.iadd, 1) := by decide +kernel
theorem dL_law_104 : decode cL_law 104 = .ok (.iconst 3, 1) := by decide +kernel
theorem dL_law_105 : decode cL_law 105 = .ok (.invokestatic 47, 3) := by decide +kernel
theorem dL_law_108 : decode cL_law 108 = .ok (.ifCond .ne 7, 3) := by decide +kernel
theorem dL_law_111 : decode cL_law 111 = .ok (.iconst 0, 1) := by decide +kernel
theorem dL_law_112 : decode cL_law 112 = .ok (.goto 13, 3) := by decide +kernel
theorem dL_law_115 : decode cL_law 115 = .ok (.aload_n 0, 1) := by decide +kernel
theorem dL_law_116 : decode cL_law 116 = .ok (.bipush 19, 2) := by decide +kernel
theorem dL_law_118 : decode cL_law 118 = .ok (.iload_n 3, 1) := by decide +kernel
theorem dL_law_119 : decode cL_law 119 = .ok (.iadd, 1) := by decide +kernel
theorem dL_law_120 : decode cL_law 120 = .ok (.bipush 20, 2) := by decide +kernel
theorem dL_law_122 : decode cL_law 122 = .ok (.invokestatic 47, 3) := by decide +kernel
theorem dL_law_125 : decode cL_law 125 = .ok (.aload_n 0, 1) := by decide +kernel
theorem dL_law_126 : decode cL_law 126 = .ok (.bipush 26, 2) := by decide +kernel
theorem dL_law_128 : decode cL_law 128 = .ok (.iload_n 3, 1) := by decide +kernel
theorem dL_law_129 : decode cL_law 129 = .ok (.iadd, 1) := by decide +kernel
theorem dL_law_130 : decode cL_law 130 = .ok (.iconst 2, 1) := by decide +kernel
theorem dL_law_131 : decode cL_law 131 = .ok (.invokestatic 47, 3) := by decide +kernel
theorem dL_law_134 : decode cL_law 134 = .ok (.invokevirtual 80, 3) := by decide +kernel
theorem dL_law_137 : decode cL_law 137 = .ok (.iload_n 3, 1) := by decide +kernel
theorem dL_law_138 : decode cL_law 138 = .ok (.if_icmp .eq 5, 3) := by decide +kernel
theorem dL_law_141 : decode cL_law 141 = .ok (.iconst 0, 1) := by decide +kernel
theorem dL_law_142 : decode cL_law 142 = .ok (.ireturn, 1) := by decide +kernel
theorem dL_law_143 : decode cL_law 143 = .ok (.iinc 3 1, 3) := by decide +kernel
theorem dL_law_146 : decode cL_law 146 = .ok (.goto (-74), 3) := by decide +kernel
theorem dL_law_149 : decode cL_law 149 = .ok (.iconst 0, 1) := by decide +kernel
theorem dL_law_150 : decode cL_law 150 = .ok (.istore_n 3, 1) := by decide +kernel
theorem dL_law_151 : decode cL_law 151 = .ok (.iload_n 3, 1) := by decide +kernel
theorem dL_law_152 : decode cL_law 152 = .ok (.iconst 3, 1) := by decide +kernel
theorem dL_law_153 : decode cL_law 153 = .ok (.if_icmp .ge 49, 3) := by decide +kernel
theorem dL_law_156 : decode cL_law 156 = .ok (.aload_n 1, 1) := by decide +kernel
theorem dL_law_157 : decode cL_law 157 = .ok (.aload_n 0, 1) := by decide +kernel
theorem dL_law_158 : decode cL_law 158 = .ok (.bipush 33, 2) := by decide +kernel
theorem dL_law_160 : decode cL_law 160 = .ok (.iload_n 3, 1) := by decide +kernel
theorem dL_law_161 : decode cL_law 161 = .ok (.iadd, 1) := by decide +kernel
theorem dL_law_162 : decode cL_law 162 = .ok (.iload_n 2, 1) := by decide +kernel
theorem dL_law_163 : decode cL_law 163 = .ok (.invokestatic 47, 3) := by decide +kernel
theorem dL_law_166 : decode cL_law 166 = .ok (.iconst 2, 1) := by decide +kernel
theorem dL_law_167 : decode cL_law 167 = .ok (.aload_n 0, 1) := by decide +kernel
theorem dL_law_168 : decode cL_law 168 = .ok (.bipush 36, 2) := by decide +kernel
theorem dL_law_170 : decode cL_law 170 = .ok (.iload_n 3, 1) := by decide +kernel
theorem dL_law_171 : decode cL_law 171 = .ok (.iadd, 1) := by decide +kernel
theorem dL_law_172 : decode cL_law 172 = .ok (.bipush 12, 2) := by decide +kernel
theorem dL_law_174 : decode cL_law 174 = .ok (.invokestatic 47, 3) := by decide +kernel
theorem dL_law_177 : decode cL_law 177 = .ok (.iadd, 1) := by decide +kernel
theorem dL_law_178 : decode cL_law 178 = .ok (.aload_n 0, 1) := by decide +kernel
theorem dL_law_179 : decode cL_law 179 = .ok (.bipush 39, 2) := by decide +kernel
theorem dL_law_181 : decode cL_law 181 = .ok (.iload_n 3, 1) := by decide +kernel
theorem dL_law_182 : decode cL_law 182 = .ok (.iadd, 1) := by decide +kernel
theorem dL_law_183 : decode cL_law 183 = .ok (.bipush 8, 2) := by decide +kernel
theorem dL_law_185 : decode cL_law 185 = .ok (.invokestatic 47, 3) := by decide +kernel
theorem dL_law_188 : decode cL_law 188 = .ok (.invokestatic 62, 3) := by decide +kernel
theorem dL_law_191 : decode cL_law 191 = .ok (.ifCond .ne 5, 3) := by decide +kernel
theorem dL_law_194 : decode cL_law 194 = .ok (.iconst 0, 1) := by decide +kernel
theorem dL_law_195 : decode cL_law 195 = .ok (.ireturn, 1) := by decide +kernel
theorem dL_law_196 : decode cL_law 196 = .ok (.iinc 3 1, 3) := by decide +kernel
theorem dL_law_199 : decode cL_law 199 = .ok (.goto (-48), 3) := by decide +kernel
theorem dL_law_202 : decode cL_law 202 = .ok (.iconst 0, 1) := by decide +kernel
theorem dL_law_203 : decode cL_law 203 = .ok (.istore_n 3, 1) := by decide +kernel
theorem dL_law_204 : decode cL_law 204 = .ok (.iload_n 3, 1) := by decide +kernel
theorem dL_law_205 : decode cL_law 205 = .ok (.bipush 80, 2) := by decide +kernel
theorem dL_law_207 : decode cL_law 207 = .ok (.if_icmp .ge 32, 3) := by decide +kernel
theorem dL_law_210 : decode cL_law 210 = .ok (.aload_n 1, 1) := by decide +kernel
theorem dL_law_211 : decode cL_law 211 = .ok (.aload_n 0, 1) := by decide +kernel
theorem dL_law_212 : decode cL_law 212 = .ok (.bipush 42, 2) := by decide +kernel
theorem dL_law_214 : decode cL_law 214 = .ok (.iconst 5, 1) := by decide +kernel
theorem dL_law_215 : decode cL_law 215 = .ok (.iload_n 3, 1) := by decide +kernel
theorem dL_law_216 : decode cL_law 216 = .ok (.imul, 1) := by decide +kernel
theorem dL_law_217 : decode cL_law 217 = .ok (.iadd, 1) := by decide +kernel
theorem dL_law_218 : decode cL_law 218 = .ok (.invokestatic 83, 3) := by decide +kernel
theorem dL_law_221 : decode cL_law 221 = .ok (.ifCond .eq 10, 3) := by decide +kernel
theorem dL_law_224 : decode cL_law 224 = .ok (.aload_n 1, 1) := by decide +kernel
theorem dL_law_225 : decode cL_law 225 = .ok (.invokestatic 87, 3) := by decide +kernel
theorem dL_law_228 : decode cL_law 228 = .ok (.ifCond .ne 5, 3) := by decide +kernel
theorem dL_law_231 : decode cL_law 231 = .ok (.iconst 0, 1) := by decide +kernel
theorem dL_law_232 : decode cL_law 232 = .ok (.ireturn, 1) := by decide +kernel
theorem dL_law_233 : decode cL_law 233 = .ok (.iinc 3 1, 3) := by decide +kernel
theorem dL_law_236 : decode cL_law 236 = .ok (.goto (-32), 3) := by decide +kernel
theorem dL_law_239 : decode cL_law 239 = .ok (.iconst 1, 1) := by decide +kernel
theorem dL_law_240 : decode cL_law 240 = .ok (.ireturn, 1) := by decide +kernel
end
section
-- the tables' words in one list; what a field row, a call row asks of it
abbrev kcl : List vw_C := [(RX0, TX0, 3), (RX1, TX1, 16), (RX2, TX2, 2), (RX3, TX3, 11), (RX4, TX4, 4), (RX5, TX5, 3), (RX6, TX6, 6)]
def TB : List Cond := lw_tbl.filter goodWord
theorem tb_in {w : Cond} (i : Nat) (h : lw_tbl[i]? = some w) (hg : goodWord w = true) : w ∈ TB := List.mem_filter.mpr ⟨List.mem_of_getElem? h, hg⟩
theorem tb_gd {w : Cond} (h : w ∈ TB) : goodWord w = true := (List.mem_filter.mp h).2
theorem tb_tbl {w : Cond} (h : w ∈ TB) : w ∈ lw_tbl := (List.mem_filter.mp h).1
theorem tb_gin {c : Cond} (h : c ∈ TB) : GoodIn TB (c :: TB) := fun w hw => by
  rcases List.mem_cons.mp hw with rfl | hw
  · exact ⟨h, good_of_word (tb_gd h)⟩
  · exact ⟨hw, good_of_word (tb_gd hw)⟩
theorem lz_0_0 : u_lay RX0 TX0 0 ∈ TB := tb_in 188 (by decide +kernel) (by decide +kernel)
theorem lz_0_1 : u_lay RX0 TX0 1 ∈ TB := tb_in 190 (by decide +kernel) (by decide +kernel)
theorem lz_0_2 : u_lay RX0 TX0 2 ∈ TB := tb_in 192 (by decide +kernel) (by decide +kernel)
theorem ls_0 : ∀ w ∈ u_ws RX0 TX0 3, w ∈ TB := fun w hw => by
  obtain ⟨j, hj, rfl⟩ := List.mem_map.mp hw
  have hj := List.mem_range.mp hj
  match j, hj with
  | 0, _ => exact lz_0_0
  | 1, _ => exact lz_0_1
  | 2, _ => exact lz_0_2
  | j + 3, hj => exact absurd hj (by omega)
theorem lz_1_0 : u_lay RX1 TX1 0 ∈ TB := tb_in 63 (by decide +kernel) (by decide +kernel)
theorem lz_1_1 : u_lay RX1 TX1 1 ∈ TB := tb_in 65 (by decide +kernel) (by decide +kernel)
theorem lz_1_2 : u_lay RX1 TX1 2 ∈ TB := tb_in 67 (by decide +kernel) (by decide +kernel)
theorem lz_1_3 : u_lay RX1 TX1 3 ∈ TB := tb_in 69 (by decide +kernel) (by decide +kernel)
theorem lz_1_4 : u_lay RX1 TX1 4 ∈ TB := tb_in 71 (by decide +kernel) (by decide +kernel)
theorem lz_1_5 : u_lay RX1 TX1 5 ∈ TB := tb_in 73 (by decide +kernel) (by decide +kernel)
theorem lz_1_6 : u_lay RX1 TX1 6 ∈ TB := tb_in 75 (by decide +kernel) (by decide +kernel)
theorem lz_1_7 : u_lay RX1 TX1 7 ∈ TB := tb_in 77 (by decide +kernel) (by decide +kernel)
theorem lz_1_8 : u_lay RX1 TX1 8 ∈ TB := tb_in 79 (by decide +kernel) (by decide +kernel)
theorem lz_1_9 : u_lay RX1 TX1 9 ∈ TB := tb_in 81 (by decide +kernel) (by decide +kernel)
theorem lz_1_10 : u_lay RX1 TX1 10 ∈ TB := tb_in 83 (by decide +kernel) (by decide +kernel)
theorem lz_1_11 : u_lay RX1 TX1 11 ∈ TB := tb_in 85 (by decide +kernel) (by decide +kernel)
theorem lz_1_12 : u_lay RX1 TX1 12 ∈ TB := tb_in 87 (by decide +kernel) (by decide +kernel)
theorem lz_1_13 : u_lay RX1 TX1 13 ∈ TB := tb_in 89 (by decide +kernel) (by decide +kernel)
theorem lz_1_14 : u_lay RX1 TX1 14 ∈ TB := tb_in 91 (by decide +kernel) (by decide +kernel)
theorem lz_1_15 : u_lay RX1 TX1 15 ∈ TB := tb_in 93 (by decide +kernel) (by decide +kernel)
theorem ls_1 : ∀ w ∈ u_ws RX1 TX1 16, w ∈ TB := fun w hw => by
  obtain ⟨j, hj, rfl⟩ := List.mem_map.mp hw
  have hj := List.mem_range.mp hj
  match j, hj with
  | 0, _ => exact lz_1_0
  | 1, _ => exact lz_1_1
  | 2, _ => exact lz_1_2
  | 3, _ => exact lz_1_3
  | 4, _ => exact lz_1_4
  | 5, _ => exact lz_1_5
  | 6, _ => exact lz_1_6
  | 7, _ => exact lz_1_7
  | 8, _ => exact lz_1_8
  | 9, _ => exact lz_1_9
  | 10, _ => exact lz_1_10
  | 11, _ => exact lz_1_11
  | 12, _ => exact lz_1_12
  | 13, _ => exact lz_1_13
  | 14, _ => exact lz_1_14
  | 15, _ => exact lz_1_15
  | j + 16, hj => exact absurd hj (by omega)
theorem lz_2_0 : u_lay RX2 TX2 0 ∈ TB := tb_in 204 (by decide +kernel) (by decide +kernel)
theorem lz_2_1 : u_lay RX2 TX2 1 ∈ TB := tb_in 206 (by decide +kernel) (by decide +kernel)
theorem ls_2 : ∀ w ∈ u_ws RX2 TX2 2, w ∈ TB := fun w hw => by
  obtain ⟨j, hj, rfl⟩ := List.mem_map.mp hw
  have hj := List.mem_range.mp hj
  match j, hj with
  | 0, _ => exact lz_2_0
  | 1, _ => exact lz_2_1
  | j + 2, hj => exact absurd hj (by omega)
theorem lz_3_0 : u_lay RX3 TX3 0 ∈ TB := tb_in 152 (by decide +kernel) (by decide +kernel)
theorem lz_3_1 : u_lay RX3 TX3 1 ∈ TB := tb_in 154 (by decide +kernel) (by decide +kernel)
theorem lz_3_2 : u_lay RX3 TX3 2 ∈ TB := tb_in 156 (by decide +kernel) (by decide +kernel)
theorem lz_3_3 : u_lay RX3 TX3 3 ∈ TB := tb_in 158 (by decide +kernel) (by decide +kernel)
theorem lz_3_4 : u_lay RX3 TX3 4 ∈ TB := tb_in 160 (by decide +kernel) (by decide +kernel)
theorem lz_3_5 : u_lay RX3 TX3 5 ∈ TB := tb_in 162 (by decide +kernel) (by decide +kernel)
theorem lz_3_6 : u_lay RX3 TX3 6 ∈ TB := tb_in 164 (by decide +kernel) (by decide +kernel)
theorem lz_3_7 : u_lay RX3 TX3 7 ∈ TB := tb_in 166 (by decide +kernel) (by decide +kernel)
theorem lz_3_8 : u_lay RX3 TX3 8 ∈ TB := tb_in 168 (by decide +kernel) (by decide +kernel)
theorem lz_3_9 : u_lay RX3 TX3 9 ∈ TB := tb_in 170 (by decide +kernel) (by decide +kernel)
theorem lz_3_10 : u_lay RX3 TX3 10 ∈ TB := tb_in 172 (by decide +kernel) (by decide +kernel)
theorem ls_3 : ∀ w ∈ u_ws RX3 TX3 11, w ∈ TB := fun w hw => by
  obtain ⟨j, hj, rfl⟩ := List.mem_map.mp hw
  have hj := List.mem_range.mp hj
  match j, hj with
  | 0, _ => exact lz_3_0
  | 1, _ => exact lz_3_1
  | 2, _ => exact lz_3_2
  | 3, _ => exact lz_3_3
  | 4, _ => exact lz_3_4
  | 5, _ => exact lz_3_5
  | 6, _ => exact lz_3_6
  | 7, _ => exact lz_3_7
  | 8, _ => exact lz_3_8
  | 9, _ => exact lz_3_9
  | 10, _ => exact lz_3_10
  | j + 11, hj => exact absurd hj (by omega)
theorem lz_4_0 : u_lay RX4 TX4 0 ∈ TB := tb_in 132 (by decide +kernel) (by decide +kernel)
theorem lz_4_1 : u_lay RX4 TX4 1 ∈ TB := tb_in 134 (by decide +kernel) (by decide +kernel)
theorem lz_4_2 : u_lay RX4 TX4 2 ∈ TB := tb_in 136 (by decide +kernel) (by decide +kernel)
theorem lz_4_3 : u_lay RX4 TX4 3 ∈ TB := tb_in 138 (by decide +kernel) (by decide +kernel)
theorem ls_4 : ∀ w ∈ u_ws RX4 TX4 4, w ∈ TB := fun w hw => by
  obtain ⟨j, hj, rfl⟩ := List.mem_map.mp hw
  have hj := List.mem_range.mp hj
  match j, hj with
  | 0, _ => exact lz_4_0
  | 1, _ => exact lz_4_1
  | 2, _ => exact lz_4_2
  | 3, _ => exact lz_4_3
  | j + 4, hj => exact absurd hj (by omega)
theorem lz_5_0 : u_lay RX5 TX5 0 ∈ TB := tb_in 110 (by decide +kernel) (by decide +kernel)
theorem lz_5_1 : u_lay RX5 TX5 1 ∈ TB := tb_in 112 (by decide +kernel) (by decide +kernel)
theorem lz_5_2 : u_lay RX5 TX5 2 ∈ TB := tb_in 114 (by decide +kernel) (by decide +kernel)
theorem ls_5 : ∀ w ∈ u_ws RX5 TX5 3, w ∈ TB := fun w hw => by
  obtain ⟨j, hj, rfl⟩ := List.mem_map.mp hw
  have hj := List.mem_range.mp hj
  match j, hj with
  | 0, _ => exact lz_5_0
  | 1, _ => exact lz_5_1
  | 2, _ => exact lz_5_2
  | j + 3, hj => exact absurd hj (by omega)
theorem lz_6_0 : u_lay RX6 TX6 0 ∈ TB := tb_in 216 (by decide +kernel) (by decide +kernel)
theorem lz_6_1 : u_lay RX6 TX6 1 ∈ TB := tb_in 218 (by decide +kernel) (by decide +kernel)
theorem lz_6_2 : u_lay RX6 TX6 2 ∈ TB := tb_in 220 (by decide +kernel) (by decide +kernel)
theorem lz_6_3 : u_lay RX6 TX6 3 ∈ TB := tb_in 222 (by decide +kernel) (by decide +kernel)
theorem lz_6_4 : u_lay RX6 TX6 4 ∈ TB := tb_in 224 (by decide +kernel) (by decide +kernel)
theorem lz_6_5 : u_lay RX6 TX6 5 ∈ TB := tb_in 226 (by decide +kernel) (by decide +kernel)
theorem ls_6 : ∀ w ∈ u_ws RX6 TX6 6, w ∈ TB := fun w hw => by
  obtain ⟨j, hj, rfl⟩ := List.mem_map.mp hw
  have hj := List.mem_range.mp hj
  match j, hj with
  | 0, _ => exact lz_6_0
  | 1, _ => exact lz_6_1
  | 2, _ => exact lz_6_2
  | 3, _ => exact lz_6_3
  | 4, _ => exact lz_6_4
  | 5, _ => exact lz_6_5
  | j + 6, hj => exact absurd hj (by omega)
/-- a field as an instruction names it: class ci of kcl, its slot k -/
def FW (own : String) (ix ci k : Nat) : Prop := ∃ q : vw_C, kcl[ci]? = some q ∧ k < q.2.2 ∧ Cond.fieldLink own ix q.1 (q.2.1 k).2.1 (q.2.1 k).2.2.1 ∈ TB ∧ (∀ w ∈ u_ws q.1 q.2.1 q.2.2, w ∈ TB) ∧ (q.2.1 k).1 = q.1
def FT (ci k : Nat) (ty : FieldType) (fin : Bool) : Prop := ∃ (q : vw_C) (ty0 : Nat → FieldType), kcl[ci]? = some q ∧ (∀ k, k < q.2.2 → parseFieldDescriptor (q.2.1 k).2.2.1 = some (ty0 k)) ∧ (∀ a, a < q.2.2 → ∀ b, b < q.2.2 → a ≠ b → (q.2.1 a).2.1 ≠ (q.2.1 b).2.1) ∧ ty0 k = ty ∧ (q.2.1 k).2.2.2 = fin
theorem fw_X1_52 : FW RX1 52 1 0 := ⟨(RX1, TX1, 16), rfl, by decide, tb_in 39 (by decide +kernel) rfl, ls_1, rfl⟩
theorem fw_X3_107 : FW RX3 107 1 0 := ⟨(RX1, TX1, 16), rfl, by decide, tb_in 40 (by decide +kernel) rfl, ls_1, rfl⟩
theorem fw_X1_55 : FW RX1 55 1 1 := ⟨(RX1, TX1, 16), rfl, by decide, tb_in 41 (by decide +kernel) rfl, ls_1, rfl⟩
theorem fw_X3_211 : FW RX3 211 1 1 := ⟨(RX1, TX1, 16), rfl, by decide, tb_in 42 (by decide +kernel) rfl, ls_1, rfl⟩
theorem fw_X1_58 : FW RX1 58 1 2 := ⟨(RX1, TX1, 16), rfl, by decide, tb_in 43 (by decide +kernel) rfl, ls_1, rfl⟩
theorem fw_X1_9 : FW RX1 9 1 3 := ⟨(RX1, TX1, 16), rfl, by decide, tb_in 44 (by decide +kernel) rfl, ls_1, rfl⟩
theorem fw_X3_110 : FW RX3 110 1 3 := ⟨(RX1, TX1, 16), rfl, by decide, tb_in 45 (by decide +kernel) rfl, ls_1, rfl⟩
theorem fw_X1_15 : FW RX1 15 1 4 := ⟨(RX1, TX1, 16), rfl, by decide, tb_in 46 (by decide +kernel) rfl, ls_1, rfl⟩
theorem fw_X3_137 : FW RX3 137 1 4 := ⟨(RX1, TX1, 16), rfl, by decide, tb_in 47 (by decide +kernel) rfl, ls_1, rfl⟩
theorem fw_X1_18 : FW RX1 18 1 5 := ⟨(RX1, TX1, 16), rfl, by decide, tb_in 48 (by decide +kernel) rfl, ls_1, rfl⟩
theorem fw_X3_192 : FW RX3 192 1 5 := ⟨(RX1, TX1, 16), rfl, by decide, tb_in 49 (by decide +kernel) rfl, ls_1, rfl⟩
theorem fw_X1_21 : FW RX1 21 1 6 := ⟨(RX1, TX1, 16), rfl, by decide, tb_in 50 (by decide +kernel) rfl, ls_1, rfl⟩
theorem fw_X3_164 : FW RX3 164 1 6 := ⟨(RX1, TX1, 16), rfl, by decide, tb_in 51 (by decide +kernel) rfl, ls_1, rfl⟩
theorem fw_X1_25 : FW RX1 25 1 7 := ⟨(RX1, TX1, 16), rfl, by decide, tb_in 52 (by decide +kernel) rfl, ls_1, rfl⟩
theorem fw_X1_28 : FW RX1 28 1 8 := ⟨(RX1, TX1, 16), rfl, by decide, tb_in 53 (by decide +kernel) rfl, ls_1, rfl⟩
theorem fw_X3_134 : FW RX3 134 1 8 := ⟨(RX1, TX1, 16), rfl, by decide, tb_in 54 (by decide +kernel) rfl, ls_1, rfl⟩
theorem fw_X1_31 : FW RX1 31 1 9 := ⟨(RX1, TX1, 16), rfl, by decide, tb_in 55 (by decide +kernel) rfl, ls_1, rfl⟩
theorem fw_X1_34 : FW RX1 34 1 10 := ⟨(RX1, TX1, 16), rfl, by decide, tb_in 56 (by decide +kernel) rfl, ls_1, rfl⟩
theorem fw_X1_37 : FW RX1 37 1 11 := ⟨(RX1, TX1, 16), rfl, by decide, tb_in 57 (by decide +kernel) rfl, ls_1, rfl⟩
theorem fw_X1_40 : FW RX1 40 1 12 := ⟨(RX1, TX1, 16), rfl, by decide, tb_in 58 (by decide +kernel) rfl, ls_1, rfl⟩
theorem fw_X1_43 : FW RX1 43 1 13 := ⟨(RX1, TX1, 16), rfl, by decide, tb_in 59 (by decide +kernel) rfl, ls_1, rfl⟩
theorem fw_X1_46 : FW RX1 46 1 14 := ⟨(RX1, TX1, 16), rfl, by decide, tb_in 60 (by decide +kernel) rfl, ls_1, rfl⟩
theorem fw_X1_49 : FW RX1 49 1 15 := ⟨(RX1, TX1, 16), rfl, by decide, tb_in 61 (by decide +kernel) rfl, ls_1, rfl⟩
theorem fw_X3_208 : FW RX3 208 1 15 := ⟨(RX1, TX1, 16), rfl, by decide, tb_in 62 (by decide +kernel) rfl, ls_1, rfl⟩
theorem fw_X5_9 : FW RX5 9 5 0 := ⟨(RX5, TX5, 3), rfl, by decide, tb_in 104 (by decide +kernel) rfl, ls_5, rfl⟩
theorem fw_X3_114 : FW RX3 114 5 0 := ⟨(RX5, TX5, 3), rfl, by decide, tb_in 105 (by decide +kernel) rfl, ls_5, rfl⟩
theorem fw_X5_15 : FW RX5 15 5 1 := ⟨(RX5, TX5, 3), rfl, by decide, tb_in 106 (by decide +kernel) rfl, ls_5, rfl⟩
theorem fw_X3_117 : FW RX3 117 5 1 := ⟨(RX5, TX5, 3), rfl, by decide, tb_in 107 (by decide +kernel) rfl, ls_5, rfl⟩
theorem fw_X5_18 : FW RX5 18 5 2 := ⟨(RX5, TX5, 3), rfl, by decide, tb_in 108 (by decide +kernel) rfl, ls_5, rfl⟩
theorem fw_X3_120 : FW RX3 120 5 2 := ⟨(RX5, TX5, 3), rfl, by decide, tb_in 109 (by decide +kernel) rfl, ls_5, rfl⟩
theorem fw_X4_9 : FW RX4 9 4 0 := ⟨(RX4, TX4, 4), rfl, by decide, tb_in 124 (by decide +kernel) rfl, ls_4, rfl⟩
theorem fw_X3_173 : FW RX3 173 4 0 := ⟨(RX4, TX4, 4), rfl, by decide, tb_in 125 (by decide +kernel) rfl, ls_4, rfl⟩
theorem fw_X4_15 : FW RX4 15 4 1 := ⟨(RX4, TX4, 4), rfl, by decide, tb_in 126 (by decide +kernel) rfl, ls_4, rfl⟩
theorem fw_X3_174 : FW RX3 174 4 1 := ⟨(RX4, TX4, 4), rfl, by decide, tb_in 127 (by decide +kernel) rfl, ls_4, rfl⟩
theorem fw_X4_18 : FW RX4 18 4 2 := ⟨(RX4, TX4, 4), rfl, by decide, tb_in 128 (by decide +kernel) rfl, ls_4, rfl⟩
theorem fw_X3_179 : FW RX3 179 4 2 := ⟨(RX4, TX4, 4), rfl, by decide, tb_in 129 (by decide +kernel) rfl, ls_4, rfl⟩
theorem fw_X4_21 : FW RX4 21 4 3 := ⟨(RX4, TX4, 4), rfl, by decide, tb_in 130 (by decide +kernel) rfl, ls_4, rfl⟩
theorem fw_X3_182 : FW RX3 182 4 3 := ⟨(RX4, TX4, 4), rfl, by decide, tb_in 131 (by decide +kernel) rfl, ls_4, rfl⟩
theorem fw_X3_44 : FW RX3 44 3 0 := ⟨(RX3, TX3, 11), rfl, by decide, tb_in 141 (by decide +kernel) rfl, ls_3, rfl⟩
theorem fw_X3_18 : FW RX3 18 3 1 := ⟨(RX3, TX3, 11), rfl, by decide, tb_in 142 (by decide +kernel) rfl, ls_3, rfl⟩
theorem fw_X3_25 : FW RX3 25 3 2 := ⟨(RX3, TX3, 11), rfl, by decide, tb_in 143 (by decide +kernel) rfl, ls_3, rfl⟩
theorem fw_X3_54 : FW RX3 54 3 3 := ⟨(RX3, TX3, 11), rfl, by decide, tb_in 144 (by decide +kernel) rfl, ls_3, rfl⟩
theorem fw_X3_32 : FW RX3 32 3 4 := ⟨(RX3, TX3, 11), rfl, by decide, tb_in 145 (by decide +kernel) rfl, ls_3, rfl⟩
theorem fw_X3_61 : FW RX3 61 3 5 := ⟨(RX3, TX3, 11), rfl, by decide, tb_in 146 (by decide +kernel) rfl, ls_3, rfl⟩
theorem fw_X3_39 : FW RX3 39 3 6 := ⟨(RX3, TX3, 11), rfl, by decide, tb_in 147 (by decide +kernel) rfl, ls_3, rfl⟩
theorem fw_X3_67 : FW RX3 67 3 7 := ⟨(RX3, TX3, 11), rfl, by decide, tb_in 148 (by decide +kernel) rfl, ls_3, rfl⟩
theorem fw_X3_73 : FW RX3 73 3 8 := ⟨(RX3, TX3, 11), rfl, by decide, tb_in 149 (by decide +kernel) rfl, ls_3, rfl⟩
theorem fw_X3_76 : FW RX3 76 3 9 := ⟨(RX3, TX3, 11), rfl, by decide, tb_in 150 (by decide +kernel) rfl, ls_3, rfl⟩
theorem fw_X3_79 : FW RX3 79 3 10 := ⟨(RX3, TX3, 11), rfl, by decide, tb_in 151 (by decide +kernel) rfl, ls_3, rfl⟩
theorem fw_X0_11 : FW RX0 11 0 0 := ⟨(RX0, TX0, 3), rfl, by decide, tb_in 184 (by decide +kernel) rfl, ls_0, rfl⟩
theorem fw_X0_18 : FW RX0 18 0 1 := ⟨(RX0, TX0, 3), rfl, by decide, tb_in 185 (by decide +kernel) rfl, ls_0, rfl⟩
theorem fw_X0_26 : FW RX0 26 0 2 := ⟨(RX0, TX0, 3), rfl, by decide, tb_in 186 (by decide +kernel) rfl, ls_0, rfl⟩
theorem fw_X6_92 : FW RX6 92 0 2 := ⟨(RX0, TX0, 3), rfl, by decide, tb_in 187 (by decide +kernel) rfl, ls_0, rfl⟩
theorem fw_X2_9 : FW RX2 9 2 0 := ⟨(RX2, TX2, 2), rfl, by decide, tb_in 202 (by decide +kernel) rfl, ls_2, rfl⟩
theorem fw_X6_88 : FW RX6 88 2 1 := ⟨(RX2, TX2, 2), rfl, by decide, tb_in 203 (by decide +kernel) rfl, ls_2, rfl⟩
theorem fw_X6_10 : FW RX6 10 6 0 := ⟨(RX6, TX6, 6), rfl, by decide, tb_in 210 (by decide +kernel) rfl, ls_6, rfl⟩
theorem fw_X6_16 : FW RX6 16 6 1 := ⟨(RX6, TX6, 6), rfl, by decide, tb_in 211 (by decide +kernel) rfl, ls_6, rfl⟩
theorem fw_X6_19 : FW RX6 19 6 2 := ⟨(RX6, TX6, 6), rfl, by decide, tb_in 212 (by decide +kernel) rfl, ls_6, rfl⟩
theorem fw_X6_23 : FW RX6 23 6 3 := ⟨(RX6, TX6, 6), rfl, by decide, tb_in 213 (by decide +kernel) rfl, ls_6, rfl⟩
theorem fw_X6_30 : FW RX6 30 6 4 := ⟨(RX6, TX6, 6), rfl, by decide, tb_in 214 (by decide +kernel) rfl, ls_6, rfl⟩
theorem fw_X6_37 : FW RX6 37 6 5 := ⟨(RX6, TX6, 6), rfl, by decide, tb_in 215 (by decide +kernel) rfl, ls_6, rfl⟩
theorem ft_0_0 : FT 0 0 (tyX0 0) true := ⟨(RX0, TX0, 3), tyX0, rfl, tyX0_ok, nmX0, rfl, rfl⟩
theorem ft_0_1 : FT 0 1 .int false := ⟨(RX0, TX0, 3), tyX0, rfl, tyX0_ok, nmX0, rfl, rfl⟩
theorem ft_0_2 : FT 0 2 .int false := ⟨(RX0, TX0, 3), tyX0, rfl, tyX0_ok, nmX0, rfl, rfl⟩
theorem ft_1_0 : FT 1 0 .int false := ⟨(RX1, TX1, 16), tyX1, rfl, tyX1_ok, nmX1, rfl, rfl⟩
theorem ft_1_1 : FT 1 1 .int false := ⟨(RX1, TX1, 16), tyX1, rfl, tyX1_ok, nmX1, rfl, rfl⟩
theorem ft_1_2 : FT 1 2 .int false := ⟨(RX1, TX1, 16), tyX1, rfl, tyX1_ok, nmX1, rfl, rfl⟩
theorem ft_1_3 : FT 1 3 .boolean false := ⟨(RX1, TX1, 16), tyX1, rfl, tyX1_ok, nmX1, rfl, rfl⟩
theorem ft_1_4 : FT 1 4 .boolean false := ⟨(RX1, TX1, 16), tyX1, rfl, tyX1_ok, nmX1, rfl, rfl⟩
theorem ft_1_5 : FT 1 5 .boolean false := ⟨(RX1, TX1, 16), tyX1, rfl, tyX1_ok, nmX1, rfl, rfl⟩
theorem ft_1_6 : FT 1 6 .int false := ⟨(RX1, TX1, 16), tyX1, rfl, tyX1_ok, nmX1, rfl, rfl⟩
theorem ft_1_7 : FT 1 7 .int false := ⟨(RX1, TX1, 16), tyX1, rfl, tyX1_ok, nmX1, rfl, rfl⟩
theorem ft_1_8 : FT 1 8 .int false := ⟨(RX1, TX1, 16), tyX1, rfl, tyX1_ok, nmX1, rfl, rfl⟩
theorem ft_1_9 : FT 1 9 .int false := ⟨(RX1, TX1, 16), tyX1, rfl, tyX1_ok, nmX1, rfl, rfl⟩
theorem ft_1_10 : FT 1 10 .int false := ⟨(RX1, TX1, 16), tyX1, rfl, tyX1_ok, nmX1, rfl, rfl⟩
theorem ft_1_11 : FT 1 11 .int false := ⟨(RX1, TX1, 16), tyX1, rfl, tyX1_ok, nmX1, rfl, rfl⟩
theorem ft_1_12 : FT 1 12 .int false := ⟨(RX1, TX1, 16), tyX1, rfl, tyX1_ok, nmX1, rfl, rfl⟩
theorem ft_1_13 : FT 1 13 .int false := ⟨(RX1, TX1, 16), tyX1, rfl, tyX1_ok, nmX1, rfl, rfl⟩
theorem ft_1_14 : FT 1 14 .int false := ⟨(RX1, TX1, 16), tyX1, rfl, tyX1_ok, nmX1, rfl, rfl⟩
theorem ft_1_15 : FT 1 15 .int false := ⟨(RX1, TX1, 16), tyX1, rfl, tyX1_ok, nmX1, rfl, rfl⟩
theorem ft_2_0 : FT 2 0 (tyX2 0) true := ⟨(RX2, TX2, 2), tyX2, rfl, tyX2_ok, nmX2, rfl, rfl⟩
theorem ft_2_1 : FT 2 1 .int false := ⟨(RX2, TX2, 2), tyX2, rfl, tyX2_ok, nmX2, rfl, rfl⟩
theorem ft_3_0 : FT 3 0 .int false := ⟨(RX3, TX3, 11), tyX3, rfl, tyX3_ok, nmX3, rfl, rfl⟩
theorem ft_3_1 : FT 3 1 (tyX3 1) true := ⟨(RX3, TX3, 11), tyX3, rfl, tyX3_ok, nmX3, rfl, rfl⟩
theorem ft_3_2 : FT 3 2 (tyX3 2) true := ⟨(RX3, TX3, 11), tyX3, rfl, tyX3_ok, nmX3, rfl, rfl⟩
theorem ft_3_3 : FT 3 3 .int false := ⟨(RX3, TX3, 11), tyX3, rfl, tyX3_ok, nmX3, rfl, rfl⟩
theorem ft_3_4 : FT 3 4 (tyX3 4) true := ⟨(RX3, TX3, 11), tyX3, rfl, tyX3_ok, nmX3, rfl, rfl⟩
theorem ft_3_5 : FT 3 5 .int false := ⟨(RX3, TX3, 11), tyX3, rfl, tyX3_ok, nmX3, rfl, rfl⟩
theorem ft_3_6 : FT 3 6 (tyX3 6) true := ⟨(RX3, TX3, 11), tyX3, rfl, tyX3_ok, nmX3, rfl, rfl⟩
theorem ft_3_7 : FT 3 7 .int false := ⟨(RX3, TX3, 11), tyX3, rfl, tyX3_ok, nmX3, rfl, rfl⟩
theorem ft_3_8 : FT 3 8 .int false := ⟨(RX3, TX3, 11), tyX3, rfl, tyX3_ok, nmX3, rfl, rfl⟩
theorem ft_3_9 : FT 3 9 .int false := ⟨(RX3, TX3, 11), tyX3, rfl, tyX3_ok, nmX3, rfl, rfl⟩
theorem ft_3_10 : FT 3 10 .int false := ⟨(RX3, TX3, 11), tyX3, rfl, tyX3_ok, nmX3, rfl, rfl⟩
theorem ft_4_0 : FT 4 0 .int false := ⟨(RX4, TX4, 4), tyX4, rfl, tyX4_ok, nmX4, rfl, rfl⟩
theorem ft_4_1 : FT 4 1 .int false := ⟨(RX4, TX4, 4), tyX4, rfl, tyX4_ok, nmX4, rfl, rfl⟩
theorem ft_4_2 : FT 4 2 .int false := ⟨(RX4, TX4, 4), tyX4, rfl, tyX4_ok, nmX4, rfl, rfl⟩
theorem ft_4_3 : FT 4 3 .int false := ⟨(RX4, TX4, 4), tyX4, rfl, tyX4_ok, nmX4, rfl, rfl⟩
theorem ft_5_0 : FT 5 0 .int false := ⟨(RX5, TX5, 3), tyX5, rfl, tyX5_ok, nmX5, rfl, rfl⟩
theorem ft_5_1 : FT 5 1 .int false := ⟨(RX5, TX5, 3), tyX5, rfl, tyX5_ok, nmX5, rfl, rfl⟩
theorem ft_5_2 : FT 5 2 .int false := ⟨(RX5, TX5, 3), tyX5, rfl, tyX5_ok, nmX5, rfl, rfl⟩
theorem ft_6_0 : FT 6 0 (tyX6 0) true := ⟨(RX6, TX6, 6), tyX6, rfl, tyX6_ok, nmX6, rfl, rfl⟩
theorem ft_6_1 : FT 6 1 (tyX6 1) true := ⟨(RX6, TX6, 6), tyX6, rfl, tyX6_ok, nmX6, rfl, rfl⟩
theorem ft_6_2 : FT 6 2 (tyX6 2) true := ⟨(RX6, TX6, 6), tyX6, rfl, tyX6_ok, nmX6, rfl, rfl⟩
theorem ft_6_3 : FT 6 3 (tyX6 3) true := ⟨(RX6, TX6, 6), tyX6, rfl, tyX6_ok, nmX6, rfl, rfl⟩
theorem ft_6_4 : FT 6 4 (tyX6 4) true := ⟨(RX6, TX6, 6), tyX6, rfl, tyX6_ok, nmX6, rfl, rfl⟩
theorem ft_6_5 : FT 6 5 (tyX6 5) true := ⟨(RX6, TX6, 6), tyX6, rfl, tyX6_ok, nmX6, rfl, rfl⟩
/-- a method that may be called: its code, what the tables say of it; n: how many arguments -/
def YC (y : MethodName) (cd : ByteArray) (mL : Nat) (rt : Option FieldType) (n : Nat) : Prop := Cond.code y cd mL rt ∈ TB ∧ Cond.initialized y.cls ∈ TB ∧ (y.cls ≠ "java/lang/invoke/MethodHandle" ∧ y.cls ≠ "java/lang/invoke/VarHandle" ∧ (parseMethodDescriptor y.desc).map (fun d => d.parameters.length) = some n)
theorem yc_X6_init : YC yX6_init cX6_init 2 none 0 := ⟨tb_in 13 (by decide +kernel) rfl, tb_in 1 (by decide +kernel) rfl, by decide +kernel, by decide +kernel, by decide +kernel⟩
theorem yi_X6_init : Cond.instanceMethod yX6_init ∈ TB := tb_in 12 (by decide +kernel) rfl
theorem yc_X3_init : YC yX3_init cX3_init 2 none 0 := ⟨tb_in 21 (by decide +kernel) rfl, tb_in 2 (by decide +kernel) rfl, by decide +kernel, by decide +kernel, by decide +kernel⟩
theorem yi_X3_init : Cond.instanceMethod yX3_init ∈ TB := tb_in 20 (by decide +kernel) rfl
theorem yc_X1_init : YC yX1_init cX1_init 1 none 0 := ⟨tb_in 37 (by decide +kernel) rfl, tb_in 3 (by decide +kernel) rfl, by decide +kernel, by decide +kernel, by decide +kernel⟩
theorem yi_X1_init : Cond.instanceMethod yX1_init ∈ TB := tb_in 36 (by decide +kernel) rfl
theorem yc_X5_init : YC yX5_init cX5_init 1 none 0 := ⟨tb_in 102 (by decide +kernel) rfl, tb_in 4 (by decide +kernel) rfl, by decide +kernel, by decide +kernel, by decide +kernel⟩
theorem yi_X5_init : Cond.instanceMethod yX5_init ∈ TB := tb_in 101 (by decide +kernel) rfl
theorem yc_X4_init : YC yX4_init cX4_init 1 none 0 := ⟨tb_in 122 (by decide +kernel) rfl, tb_in 5 (by decide +kernel) rfl, by decide +kernel, by decide +kernel, by decide +kernel⟩
theorem yi_X4_init : Cond.instanceMethod yX4_init ∈ TB := tb_in 121 (by decide +kernel) rfl
theorem yc_X0_init : YC yX0_init cX0_init 2 none 0 := ⟨tb_in 180 (by decide +kernel) rfl, tb_in 6 (by decide +kernel) rfl, by decide +kernel, by decide +kernel, by decide +kernel⟩
theorem yi_X0_init : Cond.instanceMethod yX0_init ∈ TB := tb_in 179 (by decide +kernel) rfl
theorem yc_X2_init : YC yX2_init cX2_init 1 none 0 := ⟨tb_in 200 (by decide +kernel) rfl, tb_in 7 (by decide +kernel) rfl, by decide +kernel, by decide +kernel, by decide +kernel⟩
theorem yi_X2_init : Cond.instanceMethod yX2_init ∈ TB := tb_in 199 (by decide +kernel) rfl
theorem yc_X6_set : YC yX6_set cX6_set 3 (some .int) 2 := ⟨tb_in 232 (by decide +kernel) rfl, tb_in 1 (by decide +kernel) rfl, by decide +kernel, by decide +kernel, by decide +kernel⟩
theorem yv_X6_set : Cond.instanceMethod yX6_set ∈ TB ∧ Cond.selects RX6 yX6_set yX6_set ∈ TB := ⟨tb_in 230 (by decide +kernel) rfl, tb_in 231 (by decide +kernel) rfl⟩
theorem yc_X0_prepare : YC yX0_prepare cX0_prepare 2 none 1 := ⟨tb_in 236 (by decide +kernel) rfl, tb_in 6 (by decide +kernel) rfl, by decide +kernel, by decide +kernel, by decide +kernel⟩
theorem yv_X0_prepare : Cond.instanceMethod yX0_prepare ∈ TB ∧ Cond.selects RX0 yX0_prepare yX0_prepare ∈ TB := ⟨tb_in 234 (by decide +kernel) rfl, tb_in 235 (by decide +kernel) rfl⟩
theorem yc_X3_copyFrom : YC yX3_copyFrom cX3_copyFrom 3 none 1 := ⟨tb_in 240 (by decide +kernel) rfl, tb_in 2 (by decide +kernel) rfl, by decide +kernel, by decide +kernel, by decide +kernel⟩
theorem yv_X3_copyFrom : Cond.instanceMethod yX3_copyFrom ∈ TB ∧ Cond.selects RX3 yX3_copyFrom yX3_copyFrom ∈ TB := ⟨tb_in 238 (by decide +kernel) rfl, tb_in 239 (by decide +kernel) rfl⟩
theorem yc_X1_copyFrom : YC yX1_copyFrom cX1_copyFrom 2 none 1 := ⟨tb_in 247 (by decide +kernel) rfl, tb_in 3 (by decide +kernel) rfl, by decide +kernel, by decide +kernel, by decide +kernel⟩
theorem yv_X1_copyFrom : Cond.instanceMethod yX1_copyFrom ∈ TB ∧ Cond.selects RX1 yX1_copyFrom yX1_copyFrom ∈ TB := ⟨tb_in 245 (by decide +kernel) rfl, tb_in 246 (by decide +kernel) rfl⟩
theorem yc_X5_copyFrom : YC yX5_copyFrom cX5_copyFrom 2 none 1 := ⟨tb_in 251 (by decide +kernel) rfl, tb_in 4 (by decide +kernel) rfl, by decide +kernel, by decide +kernel, by decide +kernel⟩
theorem yv_X5_copyFrom : Cond.instanceMethod yX5_copyFrom ∈ TB ∧ Cond.selects RX5 yX5_copyFrom yX5_copyFrom ∈ TB := ⟨tb_in 249 (by decide +kernel) rfl, tb_in 250 (by decide +kernel) rfl⟩
theorem yc_X4_copyFrom : YC yX4_copyFrom cX4_copyFrom 2 none 1 := ⟨tb_in 255 (by decide +kernel) rfl, tb_in 5 (by decide +kernel) rfl, by decide +kernel, by decide +kernel, by decide +kernel⟩
theorem yv_X4_copyFrom : Cond.instanceMethod yX4_copyFrom ∈ TB ∧ Cond.selects RX4 yX4_copyFrom yX4_copyFrom ∈ TB := ⟨tb_in 253 (by decide +kernel) rfl, tb_in 254 (by decide +kernel) rfl⟩
theorem yc_X3_changeSetting : YC yX3_changeSetting cX3_changeSetting 4 (some .int) 2 := ⟨tb_in 259 (by decide +kernel) rfl, tb_in 2 (by decide +kernel) rfl, by decide +kernel, by decide +kernel, by decide +kernel⟩
theorem yv_X3_changeSetting : Cond.instanceMethod yX3_changeSetting ∈ TB ∧ Cond.selects RX3 yX3_changeSetting yX3_changeSetting ∈ TB := ⟨tb_in 257 (by decide +kernel) rfl, tb_in 258 (by decide +kernel) rfl⟩
theorem yc_X6_within : YC yX6_within cX6_within 3 (some .boolean) 3 := ⟨tb_in 262 (by decide +kernel) rfl, tb_in 1 (by decide +kernel) rfl, by decide +kernel, by decide +kernel, by decide +kernel⟩
theorem ys_X6_within : Cond.static yX6_within ∈ TB := tb_in 261 (by decide +kernel) rfl
theorem yc_X0_recordUnlessError : YC yX0_recordUnlessError cX0_recordUnlessError 2 (some .int) 1 := ⟨tb_in 270 (by decide +kernel) rfl, tb_in 6 (by decide +kernel) rfl, by decide +kernel, by decide +kernel, by decide +kernel⟩
theorem yv_X0_recordUnlessError : Cond.instanceMethod yX0_recordUnlessError ∈ TB ∧ Cond.selects RX0 yX0_recordUnlessError yX0_recordUnlessError ∈ TB := ⟨tb_in 268 (by decide +kernel) rfl, tb_in 269 (by decide +kernel) rfl⟩
theorem yc_X6_line : YC yX6_line cX6_line 5 (some .int) 4 := ⟨tb_in 274 (by decide +kernel) rfl, tb_in 1 (by decide +kernel) rfl, by decide +kernel, by decide +kernel, by decide +kernel⟩
theorem yv_X6_line : Cond.instanceMethod yX6_line ∈ TB ∧ Cond.selects RX6 yX6_line yX6_line ∈ TB := ⟨tb_in 272 (by decide +kernel) rfl, tb_in 273 (by decide +kernel) rfl⟩
theorem yc_X3_addLine : YC yX3_addLine cX3_addLine 5 (some .int) 4 := ⟨tb_in 278 (by decide +kernel) rfl, tb_in 2 (by decide +kernel) rfl, by decide +kernel, by decide +kernel, by decide +kernel⟩
theorem yv_X3_addLine : Cond.instanceMethod yX3_addLine ∈ TB ∧ Cond.selects RX3 yX3_addLine yX3_addLine ∈ TB := ⟨tb_in 276 (by decide +kernel) rfl, tb_in 277 (by decide +kernel) rfl⟩
theorem yc_X3_isShape : YC yX3_isShape cX3_isShape 3 (some .boolean) 3 := ⟨tb_in 281 (by decide +kernel) rfl, tb_in 2 (by decide +kernel) rfl, by decide +kernel, by decide +kernel, by decide +kernel⟩
theorem ys_X3_isShape : Cond.static yX3_isShape ∈ TB := tb_in 280 (by decide +kernel) rfl
theorem yc_X1_becomeNew : YC yX1_becomeNew cX1_becomeNew 2 none 1 := ⟨tb_in 285 (by decide +kernel) rfl, tb_in 3 (by decide +kernel) rfl, by decide +kernel, by decide +kernel, by decide +kernel⟩
theorem yv_X1_becomeNew : Cond.instanceMethod yX1_becomeNew ∈ TB ∧ Cond.selects RX1 yX1_becomeNew yX1_becomeNew ∈ TB := ⟨tb_in 283 (by decide +kernel) rfl, tb_in 284 (by decide +kernel) rfl⟩
theorem yc_X1_shape : YC yX1_shape cX1_shape 4 none 3 := ⟨tb_in 289 (by decide +kernel) rfl, tb_in 3 (by decide +kernel) rfl, by decide +kernel, by decide +kernel, by decide +kernel⟩
theorem yv_X1_shape : Cond.instanceMethod yX1_shape ∈ TB ∧ Cond.selects RX1 yX1_shape yX1_shape ∈ TB := ⟨tb_in 287 (by decide +kernel) rfl, tb_in 288 (by decide +kernel) rfl⟩
theorem yc_L_cell : YC yL_cell cL_cell 3 (some .int) 3 := ⟨tb_in 292 (by decide +kernel) rfl, tb_in 0 (by decide +kernel) rfl, by decide +kernel, by decide +kernel, by decide +kernel⟩
theorem ys_L_cell : Cond.static yL_cell ∈ TB := tb_in 291 (by decide +kernel) rfl
set_option maxRecDepth 100000 in
theorem yc_L_agree : YC yL_agree cL_agree 10 (some .boolean) 1 := ⟨tb_in 296 (by with_unfolding_all exact rfl) rfl, tb_in 0 (by decide +kernel) rfl, by decide +kernel, by decide +kernel, by decide +kernel⟩
theorem ys_L_agree : Cond.static yL_agree ∈ TB := tb_in 295 (by decide +kernel) rfl
theorem yc_X6_count : YC yX6_count cX6_count 2 (some .int) 1 := ⟨tb_in 300 (by decide +kernel) rfl, tb_in 1 (by decide +kernel) rfl, by decide +kernel, by decide +kernel, by decide +kernel⟩
theorem yv_X6_count : Cond.instanceMethod yX6_count ∈ TB ∧ Cond.selects RX6 yX6_count yX6_count ∈ TB := ⟨tb_in 298 (by decide +kernel) rfl, tb_in 299 (by decide +kernel) rfl⟩
theorem yc_X3_numberOfAll : YC yX3_numberOfAll cX3_numberOfAll 3 (some .int) 1 := ⟨tb_in 304 (by decide +kernel) rfl, tb_in 2 (by decide +kernel) rfl, by decide +kernel, by decide +kernel, by decide +kernel⟩
theorem yv_X3_numberOfAll : Cond.instanceMethod yX3_numberOfAll ∈ TB ∧ Cond.selects RX3 yX3_numberOfAll yX3_numberOfAll ∈ TB := ⟨tb_in 302 (by decide +kernel) rfl, tb_in 303 (by decide +kernel) rfl⟩
theorem yc_X3_waitingLines : YC yX3_waitingLines cX3_waitingLines 3 (some .int) 0 := ⟨tb_in 308 (by decide +kernel) rfl, tb_in 2 (by decide +kernel) rfl, by decide +kernel, by decide +kernel, by decide +kernel⟩
theorem yv_X3_waitingLines : Cond.instanceMethod yX3_waitingLines ∈ TB ∧ Cond.selects RX3 yX3_waitingLines yX3_waitingLines ∈ TB := ⟨tb_in 306 (by decide +kernel) rfl, tb_in 307 (by decide +kernel) rfl⟩
theorem yc_X3_foundLine : YC yX3_foundLine cX3_foundLine 6 (some .int) 0 := ⟨tb_in 312 (by decide +kernel) rfl, tb_in 2 (by decide +kernel) rfl, by decide +kernel, by decide +kernel, by decide +kernel⟩
theorem yv_X3_foundLine : Cond.instanceMethod yX3_foundLine ∈ TB ∧ Cond.selects RX3 yX3_foundLine yX3_foundLine ∈ TB := ⟨tb_in 310 (by decide +kernel) rfl, tb_in 311 (by decide +kernel) rfl⟩
theorem yc_X1_mayBegin : YC yX1_mayBegin cX1_mayBegin 1 (some .boolean) 0 := ⟨tb_in 316 (by decide +kernel) rfl, tb_in 3 (by decide +kernel) rfl, by decide +kernel, by decide +kernel, by decide +kernel⟩
theorem yv_X1_mayBegin : Cond.instanceMethod yX1_mayBegin ∈ TB ∧ Cond.selects RX1 yX1_mayBegin yX1_mayBegin ∈ TB := ⟨tb_in 314 (by decide +kernel) rfl, tb_in 315 (by decide +kernel) rfl⟩
theorem yc_X1_presentRank : YC yX1_presentRank cX1_presentRank 4 (some .int) 2 := ⟨tb_in 320 (by decide +kernel) rfl, tb_in 3 (by decide +kernel) rfl, by decide +kernel, by decide +kernel, by decide +kernel⟩
theorem yv_X1_presentRank : Cond.instanceMethod yX1_presentRank ∈ TB ∧ Cond.selects RX1 yX1_presentRank yX1_presentRank ∈ TB := ⟨tb_in 318 (by decide +kernel) rfl, tb_in 319 (by decide +kernel) rfl⟩
theorem yc_X3_missesOfAll : YC yX3_missesOfAll cX3_missesOfAll 3 (some .int) 0 := ⟨tb_in 324 (by decide +kernel) rfl, tb_in 2 (by decide +kernel) rfl, by decide +kernel, by decide +kernel, by decide +kernel⟩
theorem yv_X3_missesOfAll : Cond.instanceMethod yX3_missesOfAll ∈ TB ∧ Cond.selects RX3 yX3_missesOfAll yX3_missesOfAll ∈ TB := ⟨tb_in 322 (by decide +kernel) rfl, tb_in 323 (by decide +kernel) rfl⟩
theorem yc_X6_ofLine : YC yX6_ofLine cX6_ofLine 3 (some .int) 2 := ⟨tb_in 328 (by decide +kernel) rfl, tb_in 1 (by decide +kernel) rfl, by decide +kernel, by decide +kernel, by decide +kernel⟩
theorem yv_X6_ofLine : Cond.instanceMethod yX6_ofLine ∈ TB ∧ Cond.selects RX6 yX6_ofLine yX6_ofLine ∈ TB := ⟨tb_in 326 (by decide +kernel) rfl, tb_in 327 (by decide +kernel) rfl⟩
theorem yc_X3_numberOfLine : YC yX3_numberOfLine cX3_numberOfLine 3 (some .int) 2 := ⟨tb_in 332 (by decide +kernel) rfl, tb_in 2 (by decide +kernel) rfl, by decide +kernel, by decide +kernel, by decide +kernel⟩
theorem yv_X3_numberOfLine : Cond.instanceMethod yX3_numberOfLine ∈ TB ∧ Cond.selects RX3 yX3_numberOfLine yX3_numberOfLine ∈ TB := ⟨tb_in 330 (by decide +kernel) rfl, tb_in 331 (by decide +kernel) rfl⟩
theorem yc_X3_hasLine : YC yX3_hasLine cX3_hasLine 2 (some .boolean) 1 := ⟨tb_in 336 (by decide +kernel) rfl, tb_in 2 (by decide +kernel) rfl, by decide +kernel, by decide +kernel, by decide +kernel⟩
theorem yv_X3_hasLine : Cond.instanceMethod yX3_hasLine ∈ TB ∧ Cond.selects RX3 yX3_hasLine yX3_hasLine ∈ TB := ⟨tb_in 334 (by decide +kernel) rfl, tb_in 335 (by decide +kernel) rfl⟩
theorem yc_X1_number : YC yX1_number cX1_number 4 (some .int) 3 := ⟨tb_in 340 (by decide +kernel) rfl, tb_in 3 (by decide +kernel) rfl, by decide +kernel, by decide +kernel, by decide +kernel⟩
theorem yv_X1_number : Cond.instanceMethod yX1_number ∈ TB ∧ Cond.selects RX1 yX1_number yX1_number ∈ TB := ⟨tb_in 338 (by decide +kernel) rfl, tb_in 339 (by decide +kernel) rfl⟩
theorem yc_L_present : YC yL_present cL_present 6 (some .int) 4 := ⟨tb_in 344 (by decide +kernel) rfl, tb_in 0 (by decide +kernel) rfl, by decide +kernel, by decide +kernel, by decide +kernel⟩
theorem ys_L_present : Cond.static yL_present ∈ TB := tb_in 343 (by decide +kernel) rfl
theorem yc_X6_ofNest : YC yX6_ofNest cX6_ofNest 3 (some .int) 2 := ⟨tb_in 348 (by decide +kernel) rfl, tb_in 1 (by decide +kernel) rfl, by decide +kernel, by decide +kernel, by decide +kernel⟩
theorem yv_X6_ofNest : Cond.instanceMethod yX6_ofNest ∈ TB ∧ Cond.selects RX6 yX6_ofNest yX6_ofNest ∈ TB := ⟨tb_in 346 (by decide +kernel) rfl, tb_in 347 (by decide +kernel) rfl⟩
theorem yc_X3_numberOfPlace : YC yX3_numberOfPlace cX3_numberOfPlace 3 (some .int) 2 := ⟨tb_in 352 (by decide +kernel) rfl, tb_in 2 (by decide +kernel) rfl, by decide +kernel, by decide +kernel, by decide +kernel⟩
theorem yv_X3_numberOfPlace : Cond.instanceMethod yX3_numberOfPlace ∈ TB ∧ Cond.selects RX3 yX3_numberOfPlace yX3_numberOfPlace ∈ TB := ⟨tb_in 350 (by decide +kernel) rfl, tb_in 351 (by decide +kernel) rfl⟩
theorem yc_X4_number : YC yX4_number cX4_number 2 (some .int) 1 := ⟨tb_in 356 (by decide +kernel) rfl, tb_in 5 (by decide +kernel) rfl, by decide +kernel, by decide +kernel, by decide +kernel⟩
theorem yv_X4_number : Cond.instanceMethod yX4_number ∈ TB ∧ Cond.selects RX4 yX4_number yX4_number ∈ TB := ⟨tb_in 354 (by decide +kernel) rfl, tb_in 355 (by decide +kernel) rfl⟩
theorem yc_L_isTimer : YC yL_isTimer cL_isTimer 6 (some .boolean) 4 := ⟨tb_in 359 (by decide +kernel) rfl, tb_in 0 (by decide +kernel) rfl, by decide +kernel, by decide +kernel, by decide +kernel⟩
theorem ys_L_isTimer : Cond.static yL_isTimer ∈ TB := tb_in 358 (by decide +kernel) rfl
theorem yc_X6_timer : YC yX6_timer cX6_timer 4 (some .int) 3 := ⟨tb_in 363 (by decide +kernel) rfl, tb_in 1 (by decide +kernel) rfl, by decide +kernel, by decide +kernel, by decide +kernel⟩
theorem yv_X6_timer : Cond.instanceMethod yX6_timer ∈ TB ∧ Cond.selects RX6 yX6_timer yX6_timer ∈ TB := ⟨tb_in 361 (by decide +kernel) rfl, tb_in 362 (by decide +kernel) rfl⟩
theorem yc_X3_addTimer : YC yX3_addTimer cX3_addTimer 5 (some .int) 3 := ⟨tb_in 367 (by decide +kernel) rfl, tb_in 2 (by decide +kernel) rfl, by decide +kernel, by decide +kernel, by decide +kernel⟩
theorem yv_X3_addTimer : Cond.instanceMethod yX3_addTimer ∈ TB ∧ Cond.selects RX3 yX3_addTimer yX3_addTimer ∈ TB := ⟨tb_in 365 (by decide +kernel) rfl, tb_in 366 (by decide +kernel) rfl⟩
theorem yc_X6_ofTimer : YC yX6_ofTimer cX6_ofTimer 3 (some .int) 2 := ⟨tb_in 371 (by decide +kernel) rfl, tb_in 1 (by decide +kernel) rfl, by decide +kernel, by decide +kernel, by decide +kernel⟩
theorem yv_X6_ofTimer : Cond.instanceMethod yX6_ofTimer ∈ TB ∧ Cond.selects RX6 yX6_ofTimer yX6_ofTimer ∈ TB := ⟨tb_in 369 (by decide +kernel) rfl, tb_in 370 (by decide +kernel) rfl⟩
theorem yc_X3_numberOfTimer : YC yX3_numberOfTimer cX3_numberOfTimer 3 (some .int) 2 := ⟨tb_in 375 (by decide +kernel) rfl, tb_in 2 (by decide +kernel) rfl, by decide +kernel, by decide +kernel, by decide +kernel⟩
theorem yv_X3_numberOfTimer : Cond.instanceMethod yX3_numberOfTimer ∈ TB ∧ Cond.selects RX3 yX3_numberOfTimer yX3_numberOfTimer ∈ TB := ⟨tb_in 373 (by decide +kernel) rfl, tb_in 374 (by decide +kernel) rfl⟩
theorem yc_X3_hasTimer : YC yX3_hasTimer cX3_hasTimer 2 (some .boolean) 1 := ⟨tb_in 379 (by decide +kernel) rfl, tb_in 2 (by decide +kernel) rfl, by decide +kernel, by decide +kernel, by decide +kernel⟩
theorem yv_X3_hasTimer : Cond.instanceMethod yX3_hasTimer ∈ TB ∧ Cond.selects RX3 yX3_hasTimer yX3_hasTimer ∈ TB := ⟨tb_in 377 (by decide +kernel) rfl, tb_in 378 (by decide +kernel) rfl⟩
theorem yc_X5_number : YC yX5_number cX5_number 2 (some .int) 1 := ⟨tb_in 383 (by decide +kernel) rfl, tb_in 4 (by decide +kernel) rfl, by decide +kernel, by decide +kernel, by decide +kernel⟩
theorem yv_X5_number : Cond.instanceMethod yX5_number ∈ TB ∧ Cond.selects RX5 yX5_number yX5_number ∈ TB := ⟨tb_in 381 (by decide +kernel) rfl, tb_in 382 (by decide +kernel) rfl⟩
set_option maxRecDepth 100000 in
theorem yc_L_isAct : YC yL_isAct cL_isAct 11 (some .boolean) 3 := ⟨tb_in 386 (by with_unfolding_all exact rfl) rfl, tb_in 0 (by decide +kernel) rfl, by decide +kernel, by decide +kernel, by decide +kernel⟩
theorem ys_L_isAct : Cond.static yL_isAct ∈ TB := tb_in 385 (by decide +kernel) rfl
theorem yc_L_isRaised : YC yL_isRaised cL_isRaised 8 (some .boolean) 2 := ⟨tb_in 389 (by decide +kernel) rfl, tb_in 0 (by decide +kernel) rfl, by decide +kernel, by decide +kernel, by decide +kernel⟩
theorem ys_L_isRaised : Cond.static yL_isRaised ∈ TB := tb_in 388 (by decide +kernel) rfl
theorem yc_X6_raise : YC yX6_raise cX6_raise 2 (some .int) 1 := ⟨tb_in 393 (by decide +kernel) rfl, tb_in 1 (by decide +kernel) rfl, by decide +kernel, by decide +kernel, by decide +kernel⟩
theorem yv_X6_raise : Cond.instanceMethod yX6_raise ∈ TB ∧ Cond.selects RX6 yX6_raise yX6_raise ∈ TB := ⟨tb_in 391 (by decide +kernel) rfl, tb_in 392 (by decide +kernel) rfl⟩
theorem yc_X3_raiseLine : YC yX3_raiseLine cX3_raiseLine 2 (some .int) 1 := ⟨tb_in 397 (by decide +kernel) rfl, tb_in 2 (by decide +kernel) rfl, by decide +kernel, by decide +kernel, by decide +kernel⟩
theorem yv_X3_raiseLine : Cond.instanceMethod yX3_raiseLine ∈ TB ∧ Cond.selects RX3 yX3_raiseLine yX3_raiseLine ∈ TB := ⟨tb_in 395 (by decide +kernel) rfl, tb_in 396 (by decide +kernel) rfl⟩
theorem yc_X1_takeEdge : YC yX1_takeEdge cX1_takeEdge 2 (some .boolean) 1 := ⟨tb_in 401 (by decide +kernel) rfl, tb_in 3 (by decide +kernel) rfl, by decide +kernel, by decide +kernel, by decide +kernel⟩
theorem yv_X1_takeEdge : Cond.instanceMethod yX1_takeEdge ∈ TB ∧ Cond.selects RX1 yX1_takeEdge yX1_takeEdge ∈ TB := ⟨tb_in 399 (by decide +kernel) rfl, tb_in 400 (by decide +kernel) rfl⟩
theorem yc_L_isHeld : YC yL_isHeld cL_isHeld 9 (some .boolean) 4 := ⟨tb_in 404 (by decide +kernel) rfl, tb_in 0 (by decide +kernel) rfl, by decide +kernel, by decide +kernel, by decide +kernel⟩
theorem ys_L_isHeld : Cond.static yL_isHeld ∈ TB := tb_in 403 (by decide +kernel) rfl
theorem yc_X6_hold : YC yX6_hold cX6_hold 4 (some .int) 3 := ⟨tb_in 408 (by decide +kernel) rfl, tb_in 1 (by decide +kernel) rfl, by decide +kernel, by decide +kernel, by decide +kernel⟩
theorem yv_X6_hold : Cond.instanceMethod yX6_hold ∈ TB ∧ Cond.selects RX6 yX6_hold yX6_hold ∈ TB := ⟨tb_in 406 (by decide +kernel) rfl, tb_in 407 (by decide +kernel) rfl⟩
theorem yc_X3_holdLine : YC yX3_holdLine cX3_holdLine 4 (some .int) 3 := ⟨tb_in 412 (by decide +kernel) rfl, tb_in 2 (by decide +kernel) rfl, by decide +kernel, by decide +kernel, by decide +kernel⟩
theorem yv_X3_holdLine : Cond.instanceMethod yX3_holdLine ∈ TB ∧ Cond.selects RX3 yX3_holdLine yX3_holdLine ∈ TB := ⟨tb_in 410 (by decide +kernel) rfl, tb_in 411 (by decide +kernel) rfl⟩
theorem yc_X1_moveDevice : YC yX1_moveDevice cX1_moveDevice 4 none 2 := ⟨tb_in 416 (by decide +kernel) rfl, tb_in 3 (by decide +kernel) rfl, by decide +kernel, by decide +kernel, by decide +kernel⟩
theorem yv_X1_moveDevice : Cond.instanceMethod yX1_moveDevice ∈ TB ∧ Cond.selects RX1 yX1_moveDevice yX1_moveDevice ∈ TB := ⟨tb_in 414 (by decide +kernel) rfl, tb_in 415 (by decide +kernel) rfl⟩
theorem yc_X1_followDevices : YC yX1_followDevices cX1_followDevices 2 none 0 := ⟨tb_in 420 (by decide +kernel) rfl, tb_in 3 (by decide +kernel) rfl, by decide +kernel, by decide +kernel, by decide +kernel⟩
theorem yv_X1_followDevices : Cond.instanceMethod yX1_followDevices ∈ TB ∧ Cond.selects RX1 yX1_followDevices yX1_followDevices ∈ TB := ⟨tb_in 418 (by decide +kernel) rfl, tb_in 419 (by decide +kernel) rfl⟩
theorem yc_X6_mask : YC yX6_mask cX6_mask 3 (some .int) 2 := ⟨tb_in 424 (by decide +kernel) rfl, tb_in 1 (by decide +kernel) rfl, by decide +kernel, by decide +kernel, by decide +kernel⟩
theorem yv_X6_mask : Cond.instanceMethod yX6_mask ∈ TB ∧ Cond.selects RX6 yX6_mask yX6_mask ∈ TB := ⟨tb_in 422 (by decide +kernel) rfl, tb_in 423 (by decide +kernel) rfl⟩
theorem yc_X3_maskLine : YC yX3_maskLine cX3_maskLine 4 (some .int) 2 := ⟨tb_in 428 (by decide +kernel) rfl, tb_in 2 (by decide +kernel) rfl, by decide +kernel, by decide +kernel, by decide +kernel⟩
theorem yv_X3_maskLine : Cond.instanceMethod yX3_maskLine ∈ TB ∧ Cond.selects RX3 yX3_maskLine yX3_maskLine ∈ TB := ⟨tb_in 426 (by decide +kernel) rfl, tb_in 427 (by decide +kernel) rfl⟩
theorem yc_X6_change : YC yX6_change cX6_change 5 (some .int) 4 := ⟨tb_in 432 (by decide +kernel) rfl, tb_in 1 (by decide +kernel) rfl, by decide +kernel, by decide +kernel, by decide +kernel⟩
theorem yv_X6_change : Cond.instanceMethod yX6_change ∈ TB ∧ Cond.selects RX6 yX6_change yX6_change ∈ TB := ⟨tb_in 430 (by decide +kernel) rfl, tb_in 431 (by decide +kernel) rfl⟩
theorem yc_X3_changeLine : YC yX3_changeLine cX3_changeLine 6 (some .int) 4 := ⟨tb_in 436 (by decide +kernel) rfl, tb_in 2 (by decide +kernel) rfl, by decide +kernel, by decide +kernel, by decide +kernel⟩
theorem yv_X3_changeLine : Cond.instanceMethod yX3_changeLine ∈ TB ∧ Cond.selects RX3 yX3_changeLine yX3_changeLine ∈ TB := ⟨tb_in 434 (by decide +kernel) rfl, tb_in 435 (by decide +kernel) rfl⟩
theorem yc_X6_stop : YC yX6_stop cX6_stop 2 (some .int) 1 := ⟨tb_in 440 (by decide +kernel) rfl, tb_in 1 (by decide +kernel) rfl, by decide +kernel, by decide +kernel, by decide +kernel⟩
theorem yv_X6_stop : Cond.instanceMethod yX6_stop ∈ TB ∧ Cond.selects RX6 yX6_stop yX6_stop ∈ TB := ⟨tb_in 438 (by decide +kernel) rfl, tb_in 439 (by decide +kernel) rfl⟩
theorem yc_X3_removeTimer : YC yX3_removeTimer cX3_removeTimer 3 (some .int) 1 := ⟨tb_in 444 (by decide +kernel) rfl, tb_in 2 (by decide +kernel) rfl, by decide +kernel, by decide +kernel, by decide +kernel⟩
theorem yv_X3_removeTimer : Cond.instanceMethod yX3_removeTimer ∈ TB ∧ Cond.selects RX3 yX3_removeTimer yX3_removeTimer ∈ TB := ⟨tb_in 442 (by decide +kernel) rfl, tb_in 443 (by decide +kernel) rfl⟩
set_option maxRecDepth 100000 in
theorem yc_L_isTick : YC yL_isTick cL_isTick 27 (some .boolean) 1 := ⟨tb_in 447 (by with_unfolding_all exact rfl) rfl, tb_in 0 (by decide +kernel) rfl, by decide +kernel, by decide +kernel, by decide +kernel⟩
theorem ys_L_isTick : Cond.static yL_isTick ∈ TB := tb_in 446 (by decide +kernel) rfl
theorem yc_L_has : YC yL_has cL_has 2 (some .boolean) 2 := ⟨tb_in 450 (by decide +kernel) rfl, tb_in 0 (by decide +kernel) rfl, by decide +kernel, by decide +kernel, by decide +kernel⟩
theorem ys_L_has : Cond.static yL_has ∈ TB := tb_in 449 (by decide +kernel) rfl
theorem yc_X6_ticks : YC yX6_ticks cX6_ticks 2 (some .int) 1 := ⟨tb_in 454 (by decide +kernel) rfl, tb_in 1 (by decide +kernel) rfl, by decide +kernel, by decide +kernel, by decide +kernel⟩
theorem yv_X6_ticks : Cond.instanceMethod yX6_ticks ∈ TB ∧ Cond.selects RX6 yX6_ticks yX6_ticks ∈ TB := ⟨tb_in 452 (by decide +kernel) rfl, tb_in 453 (by decide +kernel) rfl⟩
theorem yc_X3_passTicks : YC yX3_passTicks cX3_passTicks 3 (some .int) 1 := ⟨tb_in 458 (by decide +kernel) rfl, tb_in 2 (by decide +kernel) rfl, by decide +kernel, by decide +kernel, by decide +kernel⟩
theorem yv_X3_passTicks : Cond.instanceMethod yX3_passTicks ∈ TB ∧ Cond.selects RX3 yX3_passTicks yX3_passTicks ∈ TB := ⟨tb_in 456 (by decide +kernel) rfl, tb_in 457 (by decide +kernel) rfl⟩
theorem yc_X3_passTick : YC yX3_passTick cX3_passTick 2 (some .int) 0 := ⟨tb_in 462 (by decide +kernel) rfl, tb_in 2 (by decide +kernel) rfl, by decide +kernel, by decide +kernel, by decide +kernel⟩
theorem yv_X3_passTick : Cond.instanceMethod yX3_passTick ∈ TB ∧ Cond.selects RX3 yX3_passTick yX3_passTick ∈ TB := ⟨tb_in 460 (by decide +kernel) rfl, tb_in 461 (by decide +kernel) rfl⟩
theorem yc_X3_raiseByTimers : YC yX3_raiseByTimers cX3_raiseByTimers 3 none 0 := ⟨tb_in 466 (by decide +kernel) rfl, tb_in 2 (by decide +kernel) rfl, by decide +kernel, by decide +kernel, by decide +kernel⟩
theorem yv_X3_raiseByTimers : Cond.instanceMethod yX3_raiseByTimers ∈ TB ∧ Cond.selects RX3 yX3_raiseByTimers yX3_raiseByTimers ∈ TB := ⟨tb_in 464 (by decide +kernel) rfl, tb_in 465 (by decide +kernel) rfl⟩
theorem yc_X3_beginFoundLine : YC yX3_beginFoundLine cX3_beginFoundLine 5 (some .int) 0 := ⟨tb_in 470 (by decide +kernel) rfl, tb_in 2 (by decide +kernel) rfl, by decide +kernel, by decide +kernel, by decide +kernel⟩
theorem yv_X3_beginFoundLine : Cond.instanceMethod yX3_beginFoundLine ∈ TB ∧ Cond.selects RX3 yX3_beginFoundLine yX3_beginFoundLine ∈ TB := ⟨tb_in 468 (by decide +kernel) rfl, tb_in 469 (by decide +kernel) rfl⟩
theorem yc_X3_nestTakes : YC yX3_nestTakes cX3_nestTakes 3 (some .boolean) 1 := ⟨tb_in 474 (by decide +kernel) rfl, tb_in 2 (by decide +kernel) rfl, by decide +kernel, by decide +kernel, by decide +kernel⟩
theorem yv_X3_nestTakes : Cond.instanceMethod yX3_nestTakes ∈ TB ∧ Cond.selects RX3 yX3_nestTakes yX3_nestTakes ∈ TB := ⟨tb_in 472 (by decide +kernel) rfl, tb_in 473 (by decide +kernel) rfl⟩
theorem yc_X3_costOf : YC yX3_costOf cX3_costOf 2 (some .int) 1 := ⟨tb_in 478 (by decide +kernel) rfl, tb_in 2 (by decide +kernel) rfl, by decide +kernel, by decide +kernel, by decide +kernel⟩
theorem yv_X3_costOf : Cond.instanceMethod yX3_costOf ∈ TB ∧ Cond.selects RX3 yX3_costOf yX3_costOf ∈ TB := ⟨tb_in 476 (by decide +kernel) rfl, tb_in 477 (by decide +kernel) rfl⟩
theorem yc_X1_enterNest : YC yX1_enterNest cX1_enterNest 2 none 1 := ⟨tb_in 482 (by decide +kernel) rfl, tb_in 3 (by decide +kernel) rfl, by decide +kernel, by decide +kernel, by decide +kernel⟩
theorem yv_X1_enterNest : Cond.instanceMethod yX1_enterNest ∈ TB ∧ Cond.selects RX1 yX1_enterNest yX1_enterNest ∈ TB := ⟨tb_in 480 (by decide +kernel) rfl, tb_in 481 (by decide +kernel) rfl⟩
theorem yc_X3_serveTop : YC yX3_serveTop cX3_serveTop 2 none 0 := ⟨tb_in 486 (by decide +kernel) rfl, tb_in 2 (by decide +kernel) rfl, by decide +kernel, by decide +kernel, by decide +kernel⟩
theorem yv_X3_serveTop : Cond.instanceMethod yX3_serveTop ∈ TB ∧ Cond.selects RX3 yX3_serveTop yX3_serveTop ∈ TB := ⟨tb_in 484 (by decide +kernel) rfl, tb_in 485 (by decide +kernel) rfl⟩
theorem yc_X1_leaveNest : YC yX1_leaveNest cX1_leaveNest 1 none 0 := ⟨tb_in 490 (by decide +kernel) rfl, tb_in 3 (by decide +kernel) rfl, by decide +kernel, by decide +kernel, by decide +kernel⟩
theorem yv_X1_leaveNest : Cond.instanceMethod yX1_leaveNest ∈ TB ∧ Cond.selects RX1 yX1_leaveNest yX1_leaveNest ∈ TB := ⟨tb_in 488 (by decide +kernel) rfl, tb_in 489 (by decide +kernel) rfl⟩
theorem yc_X3_growWaits : YC yX3_growWaits cX3_growWaits 2 none 0 := ⟨tb_in 494 (by decide +kernel) rfl, tb_in 2 (by decide +kernel) rfl, by decide +kernel, by decide +kernel, by decide +kernel⟩
theorem yv_X3_growWaits : Cond.instanceMethod yX3_growWaits ∈ TB ∧ Cond.selects RX3 yX3_growWaits yX3_growWaits ∈ TB := ⟨tb_in 492 (by decide +kernel) rfl, tb_in 493 (by decide +kernel) rfl⟩
theorem ml_L_79 : Cond.methodLink RL 79 yX6_init ∈ TB := tb_in 11 (by decide +kernel) rfl
theorem ml_X6_1 : Cond.methodLink RX6 1 objectInit ∈ TB := tb_in 14 (by decide +kernel) rfl
theorem ml_X6_9 : Cond.methodLink RX6 9 yX3_init ∈ TB := tb_in 19 (by decide +kernel) rfl
theorem ml_X3_3 : Cond.methodLink RX3 3 objectInit ∈ TB := tb_in 22 (by decide +kernel) rfl
theorem ml_X3_13 : Cond.methodLink RX3 13 ⟨"[I", "clone", "()Ljava/lang/Object;"⟩ ∈ TB := tb_in 25 (by decide +kernel) rfl
theorem ml_X1_3 : Cond.methodLink RX1 3 objectInit ∈ TB := tb_in 38 (by decide +kernel) rfl
theorem ml_X5_3 : Cond.methodLink RX5 3 objectInit ∈ TB := tb_in 103 (by decide +kernel) rfl
theorem ml_X4_3 : Cond.methodLink RX4 3 objectInit ∈ TB := tb_in 123 (by decide +kernel) rfl
theorem ml_X6_29 : Cond.methodLink RX6 29 yX0_init ∈ TB := tb_in 178 (by decide +kernel) rfl
theorem ml_X0_3 : Cond.methodLink RX0 3 objectInit ∈ TB := tb_in 181 (by decide +kernel) rfl
theorem ml_X0_17 : Cond.methodLink RX0 17 yX3_init ∈ TB := tb_in 183 (by decide +kernel) rfl
theorem ml_X6_36 : Cond.methodLink RX6 36 yX2_init ∈ TB := tb_in 198 (by decide +kernel) rfl
theorem ml_X2_3 : Cond.methodLink RX2 3 objectInit ∈ TB := tb_in 201 (by decide +kernel) rfl
theorem ml_L_69 : Cond.methodLink RL 69 yX6_set ∈ TB := tb_in 229 (by decide +kernel) rfl
theorem ml_X6_41 : Cond.methodLink RX6 41 yX0_prepare ∈ TB := tb_in 233 (by decide +kernel) rfl
theorem ml_X0_22 : Cond.methodLink RX0 22 yX3_copyFrom ∈ TB := tb_in 237 (by decide +kernel) rfl
theorem ml_X3_48 : Cond.methodLink RX3 48 arraycopyName ∈ TB := tb_in 241 (by decide +kernel) rfl
theorem ml_X3_57 : Cond.methodLink RX3 57 yX1_copyFrom ∈ TB := tb_in 244 (by decide +kernel) rfl
theorem ml_X3_64 : Cond.methodLink RX3 64 yX5_copyFrom ∈ TB := tb_in 248 (by decide +kernel) rfl
theorem ml_X3_70 : Cond.methodLink RX3 70 yX4_copyFrom ∈ TB := tb_in 252 (by decide +kernel) rfl
theorem ml_X6_45 : Cond.methodLink RX6 45 yX3_changeSetting ∈ TB := tb_in 256 (by decide +kernel) rfl
theorem ml_X6_49 : Cond.methodLink RX6 49 yX0_recordUnlessError ∈ TB := tb_in 267 (by decide +kernel) rfl
theorem ml_L_80 : Cond.methodLink RL 80 yX6_line ∈ TB := tb_in 271 (by decide +kernel) rfl
theorem ml_X6_53 : Cond.methodLink RX6 53 yX3_addLine ∈ TB := tb_in 275 (by decide +kernel) rfl
theorem ml_X3_92 : Cond.methodLink RX3 92 yX3_isShape ∈ TB := tb_in 279 (by decide +kernel) rfl
theorem ml_X3_95 : Cond.methodLink RX3 95 yX1_becomeNew ∈ TB := tb_in 282 (by decide +kernel) rfl
theorem ml_X3_99 : Cond.methodLink RX3 99 yX1_shape ∈ TB := tb_in 286 (by decide +kernel) rfl
theorem ml_L_47 : Cond.methodLink RL 47 yL_cell ∈ TB := tb_in 290 (by decide +kernel) rfl
theorem ml_L_87 : Cond.methodLink RL 87 yL_agree ∈ TB := tb_in 294 (by decide +kernel) rfl
theorem ml_L_14 : Cond.methodLink RL 14 yX6_count ∈ TB := tb_in 297 (by decide +kernel) rfl
theorem ml_X6_95 : Cond.methodLink RX6 95 yX3_numberOfAll ∈ TB := tb_in 301 (by decide +kernel) rfl
theorem ml_X3_202 : Cond.methodLink RX3 202 yX3_waitingLines ∈ TB := tb_in 305 (by decide +kernel) rfl
theorem ml_X3_167 : Cond.methodLink RX3 167 yX3_foundLine ∈ TB := tb_in 309 (by decide +kernel) rfl
theorem ml_X3_156 : Cond.methodLink RX3 156 yX1_mayBegin ∈ TB := tb_in 313 (by decide +kernel) rfl
theorem ml_X3_160 : Cond.methodLink RX3 160 yX1_presentRank ∈ TB := tb_in 317 (by decide +kernel) rfl
theorem ml_X3_205 : Cond.methodLink RX3 205 yX3_missesOfAll ∈ TB := tb_in 321 (by decide +kernel) rfl
theorem ml_L_8 : Cond.methodLink RL 8 yX6_ofLine ∈ TB := tb_in 325 (by decide +kernel) rfl
theorem ml_X6_79 : Cond.methodLink RX6 79 yX3_numberOfLine ∈ TB := tb_in 329 (by decide +kernel) rfl
theorem ml_X3_103 : Cond.methodLink RX3 103 yX3_hasLine ∈ TB := tb_in 333 (by decide +kernel) rfl
theorem ml_X3_195 : Cond.methodLink RX3 195 yX1_number ∈ TB := tb_in 337 (by decide +kernel) rfl
theorem ml_X1_64 : Cond.methodLink RX1 64 yX1_presentRank ∈ TB := tb_in 341 (by decide +kernel) rfl
theorem ml_L_18 : Cond.methodLink RL 18 yL_present ∈ TB := tb_in 342 (by decide +kernel) rfl
theorem ml_L_24 : Cond.methodLink RL 24 yX6_ofNest ∈ TB := tb_in 345 (by decide +kernel) rfl
theorem ml_X6_82 : Cond.methodLink RX6 82 yX3_numberOfPlace ∈ TB := tb_in 349 (by decide +kernel) rfl
theorem ml_X3_199 : Cond.methodLink RX3 199 yX4_number ∈ TB := tb_in 353 (by decide +kernel) rfl
theorem ml_L_62 : Cond.methodLink RL 62 yL_isTimer ∈ TB := tb_in 357 (by decide +kernel) rfl
theorem ml_L_44 : Cond.methodLink RL 44 yX6_timer ∈ TB := tb_in 360 (by decide +kernel) rfl
theorem ml_X6_57 : Cond.methodLink RX6 57 yX3_addTimer ∈ TB := tb_in 364 (by decide +kernel) rfl
theorem ml_L_27 : Cond.methodLink RL 27 yX6_ofTimer ∈ TB := tb_in 368 (by decide +kernel) rfl
theorem ml_X6_85 : Cond.methodLink RX6 85 yX3_numberOfTimer ∈ TB := tb_in 372 (by decide +kernel) rfl
theorem ml_X3_123 : Cond.methodLink RX3 123 yX3_hasTimer ∈ TB := tb_in 376 (by decide +kernel) rfl
theorem ml_X3_201 : Cond.methodLink RX3 201 yX5_number ∈ TB := tb_in 380 (by decide +kernel) rfl
theorem ml_L_83 : Cond.methodLink RL 83 yL_isAct ∈ TB := tb_in 384 (by decide +kernel) rfl
theorem ml_L_51 : Cond.methodLink RL 51 yL_isRaised ∈ TB := tb_in 387 (by decide +kernel) rfl
theorem ml_L_37 : Cond.methodLink RL 37 yX6_raise ∈ TB := tb_in 390 (by decide +kernel) rfl
theorem ml_X6_64 : Cond.methodLink RX6 64 yX3_raiseLine ∈ TB := tb_in 394 (by decide +kernel) rfl
theorem ml_X3_126 : Cond.methodLink RX3 126 yX1_takeEdge ∈ TB := tb_in 398 (by decide +kernel) rfl
theorem ml_L_55 : Cond.methodLink RL 55 yL_isHeld ∈ TB := tb_in 402 (by decide +kernel) rfl
theorem ml_L_40 : Cond.methodLink RL 40 yX6_hold ∈ TB := tb_in 405 (by decide +kernel) rfl
theorem ml_X6_67 : Cond.methodLink RX6 67 yX3_holdLine ∈ TB := tb_in 409 (by decide +kernel) rfl
theorem ml_X3_130 : Cond.methodLink RX3 130 yX1_moveDevice ∈ TB := tb_in 413 (by decide +kernel) rfl
theorem ml_X1_61 : Cond.methodLink RX1 61 yX1_followDevices ∈ TB := tb_in 417 (by decide +kernel) rfl
theorem ml_L_59 : Cond.methodLink RL 59 yX6_mask ∈ TB := tb_in 421 (by decide +kernel) rfl
theorem ml_X6_70 : Cond.methodLink RX6 70 yX3_maskLine ∈ TB := tb_in 425 (by decide +kernel) rfl
theorem ml_L_65 : Cond.methodLink RL 65 yX6_change ∈ TB := tb_in 429 (by decide +kernel) rfl
theorem ml_X6_73 : Cond.methodLink RX6 73 yX3_changeLine ∈ TB := tb_in 433 (by decide +kernel) rfl
theorem ml_L_72 : Cond.methodLink RL 72 yX6_stop ∈ TB := tb_in 437 (by decide +kernel) rfl
theorem ml_X6_61 : Cond.methodLink RX6 61 yX3_removeTimer ∈ TB := tb_in 441 (by decide +kernel) rfl
theorem ml_L_75 : Cond.methodLink RL 75 yL_isTick ∈ TB := tb_in 445 (by decide +kernel) rfl
theorem ml_L_30 : Cond.methodLink RL 30 yL_has ∈ TB := tb_in 448 (by decide +kernel) rfl
theorem ml_L_34 : Cond.methodLink RL 34 yX6_ticks ∈ TB := tb_in 451 (by decide +kernel) rfl
theorem ml_X6_76 : Cond.methodLink RX6 76 yX3_passTicks ∈ TB := tb_in 455 (by decide +kernel) rfl
theorem ml_X3_140 : Cond.methodLink RX3 140 yX3_passTick ∈ TB := tb_in 459 (by decide +kernel) rfl
theorem ml_X3_144 : Cond.methodLink RX3 144 yX3_raiseByTimers ∈ TB := tb_in 463 (by decide +kernel) rfl
theorem ml_X3_147 : Cond.methodLink RX3 147 yX3_beginFoundLine ∈ TB := tb_in 467 (by decide +kernel) rfl
theorem ml_X3_170 : Cond.methodLink RX3 170 yX3_nestTakes ∈ TB := tb_in 471 (by decide +kernel) rfl
theorem ml_X3_175 : Cond.methodLink RX3 175 yX3_costOf ∈ TB := tb_in 475 (by decide +kernel) rfl
theorem ml_X3_185 : Cond.methodLink RX3 185 yX1_enterNest ∈ TB := tb_in 479 (by decide +kernel) rfl
theorem ml_X3_150 : Cond.methodLink RX3 150 yX3_serveTop ∈ TB := tb_in 483 (by decide +kernel) rfl
theorem ml_X3_189 : Cond.methodLink RX3 189 yX1_leaveNest ∈ TB := tb_in 487 (by decide +kernel) rfl
theorem ml_X3_153 : Cond.methodLink RX3 153 yX3_growWaits ∈ TB := tb_in 491 (by decide +kernel) rfl
end
section
abbrev Sv : Type := Nat → Nat → Int32
def us (S : Sv) (p k : Nat) (v : Int32) : Sv := fun p' k' => if p' = p ∧ k' = k then v else S p' k'
theorem us_at (S : Sv) (p k : Nat) (v : Int32) : us S p k v p k = v := if_pos ⟨rfl, rfl⟩
theorem us_ne (S : Sv) {p k p' k' : Nat} (v : Int32) (h : ¬ (p' = p ∧ k' = k)) : us S p k v p' k' = S p' k' := if_neg h
/-- what a cell is: below 10 an object of that class of kcl, from 10 on an array (10 int, 11 boolean, 12 char, 13 Line, 14 Timer, 15 Service, 16 Server); how many slots -/
def kd (r p : Nat) : Nat × Nat :=
  if r < 11 then
    (if p = 0 then (3, 11) else if p = 1 then (10, 7) else if p = 2 then (13, 12) else if p < 15 then (1, 16) else if p = 15 then (14, 6) else if p < 22 then (5, 3) else if p = 22 then (15, 8) else (4, 4))
  else if r = 11 then
    (if p = 0 then (6, 6) else if p = 1 then (16, 2) else if p = 2 then (11, 2) else if p = 3 then (0, 3) else if p = 4 then (16, 7) else if p = 5 then (2, 2) else (12, 80))
  else if r = 12 then (10, 7)
  else (10, if p < 11 then 12 else if p < 14 then 9 else if p = 14 then 6 else 12)
def rf (r p k : Nat) : Option (Nat × Nat) :=
  if r < 11 then
    (if p = 0 then (if k = 1 then some (r, 1) else if k = 2 then some (r, 2) else if k = 4 then some (r, 15) else if k = 6 then some (r, 22) else none)
     else if p = 2 then some (r, 3 + k) else if p = 15 then some (r, 16 + k) else if p = 22 then some (r, 23 + k) else none)
  else if r = 11 then
    (if p = 0 then (if k = 0 then some (0, 0) else if k = 1 then some (1, 0) else if k = 2 then some (11, 1) else if k = 3 then some (11, 2) else if k = 4 then some (11, 3) else some (11, 5))
     else if p = 1 then some (2 + k, 0)
     else if p = 3 then (if k = 0 then some (11, 4) else none)
     else if p = 4 then some (4 + k, 0)
     else if p = 5 then (if k = 0 then some (11, 6) else none) else none)
  else if r = 12 then none
  else none
/-- the numbers of the tables, the arrays' classes, the addresses -/
abbrev mE : Type := va_G × (Nat → ClassId) × (Nat → Nat → Nat)
def ea (E : mE) (r p : Nat) : Nat := E.2.2 r p
/-- how many of the law's own arrays there are (region 13) -/
def nlc (E : mE) : Nat := E.2.2 14 0
def live (E : mE) (r p : Nat) : Prop := (r < 11 ∧ p < 31) ∨ (r = 11 ∧ p < 7) ∨ (r = 12 ∧ p < 3) ∨ (r = 13 ∧ p < nlc E)
def ownd (E : mE) (r p : Nat) : Prop := live E r p ∧ r ≠ 12
/-- an array's cell: of the class's static arrays (region 12) the monitor, the hash and the mark of the machine's are not told -/
def arA (r : Nat) (x : Option Cell) (cA : ClassId) (n : Nat) (f : Nat → Value) : Prop :=
  if r = 12 then ∃ cell : Cell, x = some cell ∧ cell.cls = cA ∧ cell.slots = (arrV cA n f).slots ∧ (∀ k, cell.vm ≠ .statics k) ∧ cell.vm ≠ .unknown else x = some (arrV cA n f)
theorem arA.eq {r : Nat} {x : Option Cell} {cA : ClassId} {n : Nat} {f : Nat → Value} (h : arA r x cA n f) (hr : r ≠ 12) : x = some (arrV cA n f) := by
  unfold arA at h
  rw [if_neg hr] at h
  exact h
theorem arA.of {r : Nat} {x : Option Cell} {cA : ClassId} {n : Nat} {f : Nat → Value} (h : x = some (arrV cA n f)) : arA r x cA n f := by
  unfold arA
  split
  · exact ⟨_, h, rfl, rfl, (fun k z => by cases z), (fun z => by cases z)⟩
  · exact h
theorem arA.ex {r : Nat} {x : Option Cell} {cA : ClassId} {n : Nat} {f : Nat → Value} (h : arA r x cA n f) : ∃ cell : Cell, x = some cell ∧ cell.cls = cA ∧ cell.slots = (arrV cA n f).slots ∧ (∀ k, cell.vm ≠ .statics k) ∧ cell.vm ≠ .unknown := by
  unfold arA at h
  split at h
  · exact h
  · exact ⟨_, h, rfl, rfl, (fun k z => by cases z), (fun z => by cases z)⟩
def tyL (E : mE) : List (ClassId × FieldType) := [(E.2.1 0, .int), (E.2.1 1, .boolean), (E.2.1 2, .char), (E.2.1 3, .object RX1), (E.2.1 4, .object RX5), (E.2.1 5, .object RX4), (E.2.1 6, .object RX3)]
def AA (E : mE) : Nat → Prop := fun q => ∃ r p, ownd E r p ∧ q = ea E r p
def Inj (E : mE) : Prop := ∀ r p r' p', live E r p → live E r' p' → ea E r p = ea E r' p' → r = r' ∧ p = p'
/-- the words that another row of the kit moves -/
def nwF : List (String × Nat × String × String × String × String) := [(RX3, 9, "InterruptInn", "FIRST_VALUES", "[I", "InterruptInn"), (RX3, 86, "InterruptInn", "LEAST_VALUES", "[I", "InterruptInn"), (RX3, 89, "InterruptInn", "MOST_VALUES", "[I", "InterruptInn")]
def nwM : List (String × Nat × MethodName × String) := [(RX3, 29, yX1_init, "InterruptInn"), (RX3, 36, yX5_init, "InterruptInn"), (RX3, 43, yX4_init, "InterruptInn"), (RX3, 82, yX6_within, "InterruptInn")]
def St0 (D : va_G) (cA : Nat → ClassId) (U : State) : Prop := va_K D kcl (tyL (D, cA, fun _ _ => 0)) U ∧ (∀ q ∈ nwF, va_Nw (.fieldLinkNest q.1 q.2.1 q.2.2.1 q.2.2.2.1 q.2.2.2.2.1 q.2.2.2.2.2) U) ∧ (∀ q ∈ nwM, va_Nw (.methodLinkNest q.1 q.2.1 q.2.2.1 q.2.2.2) U) ∧ (∀ C ∈ [RX1, RX5, RX4, RX3], va_AO C U) ∧ va_Nw (.castable "[I" "java/lang/Cloneable") U
def Zs (a0 a1 a2 : Nat) (A : Nat → Prop) (U : State) (H : Heap) : Prop := va_Z "InterruptInn" "FIRST_VALUES" "[I" (.ref a0) A U H ∧ va_Z "InterruptInn" "LEAST_VALUES" "[I" (.ref a1) A U H ∧ va_Z "InterruptInn" "MOST_VALUES" "[I" (.ref a2) A U H
/-- what a method is given of the tables and of the addresses -/
def Stat (E : mE) (U : State) : Prop := St0 E.1 E.2.1 U ∧ Inj E ∧ Zs (ea E 12 0) (ea E 12 1) (ea E 12 2) (AA E) U U.heap
theorem Stat.K {E : mE} {U : State} (h : Stat E U) : va_K E.1 kcl (tyL E) U := h.1.1
theorem St0.moved {D : va_G} {cA : Nat → ClassId} {s U : State} (hW : s.WarmedH U.vm) (h : St0 D cA s) : St0 D cA U := by
  obtain ⟨h1, h2, h3, h4, h5⟩ := h
  exact ⟨h1.moved hW.alike, fun q hq => (h2 q hq).warmF hW, fun q hq => (h3 q hq).warmM hW, fun C hC => (h4 C hC).moved hW.alike, h5.warmC hW⟩
theorem va_AO.same0 {C : String} {u U : State} (h : u.vm = U.vm) (hZ : va_AO C u) : va_AO C U := va_AO.moved (by rw [h]; exact Vm.Alike.refl _) hZ
theorem St0.same {D : va_G} {cA : Nat → ClassId} {s U : State} (h : s.vm = U.vm) (hS : St0 D cA s) : St0 D cA U := by
  obtain ⟨h1, h2, h3, h4, h5⟩ := hS
  have ha : s.vm.Alike U.vm := by rw [h]; exact Vm.Alike.refl _
  exact ⟨h1.moved ha, fun q hq => (h2 q hq).same rfl h, fun q hq => (h3 q hq).same rfl h, fun C hC => (h4 C hC).moved ha, h5.same rfl h⟩
theorem Zs.kept {a0 a1 a2 : Nat} {A : Nat → Prop} {s U : State} {H H1 : Heap} (hvm : s.vm.Alike U.vm) (hq : ∀ a : Nat, a < H.size → ¬ A a → H1[a]? = H[a]?) (h : Zs a0 a1 a2 A s H) : Zs a0 a1 a2 A U H1 :=
  ⟨(h.1.kept hq).moved hvm, (h.2.1.kept hq).moved hvm, (h.2.2.kept hq).moved hvm⟩
theorem Stat.moved {E : mE} {s U : State} {H : Heap} {locs : List Loc} (hW : s.WarmedH U.vm) (hS : va_S (AA E) s.heap H locs) (hU : U.heap = H) (h : Stat E s) : Stat E U := by
  obtain ⟨h1, h2, h3⟩ := h
  refine ⟨h1.moved hW, h2, ?_⟩
  rw [hU]
  exact Zs.kept hW.alike (fun a g1 g2 => hS.2.1 a g1 g2) h3
theorem Stat.same {E : mE} {s U : State} (hv : s.vm = U.vm) (hh : s.heap = U.heap) (h : Stat E s) : Stat E U := by
  obtain ⟨h1, h2, h3⟩ := h
  refine ⟨h1.same hv, h2, ?_⟩
  rw [← hh]
  exact Zs.kept (by rw [hv]; exact Vm.Alike.refl _) (fun a _ _ => rfl) h3
def isO (E : mE) (r p ci N : Nat) : Prop := live E r p ∧ kd r p = (ci, N)
theorem ArrOf_t {E : mE} {s : State} (h : Stat E s) (t : Nat) {ty : FieldType} (ht : (tyL E)[t]? = some (E.2.1 t, ty)) (n : Nat) (f : Nat → Value) : s.isArrayOf (arrV (E.2.1 t) n f) ty := (h.K.2 t _ ht).1 n f
section ROWS
variable {p : Program} {l : Launch} {e : Env} {R : Room} {s : State} {m : MethodId} {args : Array Value} {below : List Frame} {meth : Method} {c : Code} {H : Heap} {locs : List Loc} {cells slots : Nat} {Q : State → Prop}
/-! arrays -/
theorem jarr {E : mE} {t n j : Nat} {x : Int32} (hj : j < n) (hn : n < 2 ^ 31) (hx : x = nI j) {f : Nat → Value} : ¬ (x < 0 ∨ (arrV (E.2.1 t) n f).slots.size ≤ x.toNatClampNeg) ∧ (arrV (E.2.1 t) n f).slots[x.toNatClampNeg]? = some (f j) := by
  subst hx
  rw [arrV_size]
  refine ⟨nI_in hj hn, ?_⟩
  rw [nI_clamp (Nat.lt_trans hj hn)]
  exact arrV_read _ _ hj
end ROWS
/-! contracts -/
abbrev rmO (fr lo : Nat) : Room := { frames := fr, cells := 0, slots := 0, locals := lo }
section ENDS
variable {p : Program} {l : Launch} {e : Env} {R : Room} {s : State} {m : MethodId} {args : Array Value} {below : List Frame} {meth : Method} {c : Code} {H : Heap} {locs : List Loc}
end ENDS
section CALLS
variable {p : Program} {l : Launch} {e : Env} {R : Room} {s : State} {m : MethodId} {args : Array Value} {below : List Frame} {meth : Method} {c : Code} {H : Heap} {locs : List Loc} {cells slots : Nat} {Q : State → Prop}
theorem jcb (F : CallFix p m c cc nL s args TB own) (hY : YC y cd mL rt n) (hL : Cond.methodLink own index y ∈ TB) (hR : fr + 1 ≤ R.frames ∧ 8 + (mL + 11) + lo ≤ R.locals) : CallB R s args own index y cd mL rt (Cond.code y cd mL rt :: TB) (rmO fr lo) 0 0 n :=
  callB_of n F.2.2.2.2 (tb_gin hY.1) rfl rfl rfl (F.2.2.2.2 _ hY.2.1) (F.2.2.2.2 _ hL) hY.2.2 hR
end CALLS
/-! static arrays of the class -/
section STATICS
variable {p : Program} {l : Launch} {e : Env} {R : Room} {s : State} {m : MethodId} {args : Array Value} {below : List Frame} {meth : Method} {c : Code} {H : Heap} {locs : List Loc} {cells slots : Nat} {Q : State → Prop}
end STATICS
end
section
/-! which cells there are; small numbers -/
theorem rn12 {r : Nat} (h : r < 11) : r ≠ 12 := by omega
theorem oSrv {E : mE} {r : Nat} (h : r < 11) : isO E r 0 3 11 := ⟨Or.inl ⟨h, by omega⟩, by unfold kd; rw [if_pos h]; rfl⟩
theorem oSet {E : mE} {r : Nat} (h : r < 11) : isO E r 1 10 7 := ⟨Or.inl ⟨h, by omega⟩, by unfold kd; rw [if_pos h]; rfl⟩
theorem oLns {E : mE} {r : Nat} (h : r < 11) : isO E r 2 13 12 := ⟨Or.inl ⟨h, by omega⟩, by unfold kd; rw [if_pos h]; rfl⟩
theorem oLin {E : mE} {r i : Nat} (h : r < 11) (hi : i < 12) : isO E r (3 + i) 1 16 := ⟨Or.inl ⟨h, by omega⟩, by unfold kd; rw [if_pos h, if_neg (by omega), if_neg (by omega), if_neg (by omega), if_pos (by omega)]⟩
theorem oTms {E : mE} {r : Nat} (h : r < 11) : isO E r 15 14 6 := ⟨Or.inl ⟨h, by omega⟩, by unfold kd; rw [if_pos h]; rfl⟩
theorem oTim {E : mE} {r i : Nat} (h : r < 11) (hi : i < 6) : isO E r (16 + i) 5 3 := ⟨Or.inl ⟨h, by omega⟩, by unfold kd; rw [if_pos h, if_neg (by omega), if_neg (by omega), if_neg (by omega), if_neg (by omega), if_neg (by omega), if_pos (by omega)]⟩
theorem oNst {E : mE} {r : Nat} (h : r < 11) : isO E r 22 15 8 := ⟨Or.inl ⟨h, by omega⟩, by unfold kd; rw [if_pos h]; rfl⟩
theorem oSvc {E : mE} {r i : Nat} (h : r < 11) (hi : i < 8) : isO E r (23 + i) 4 4 := ⟨Or.inl ⟨h, by omega⟩, by unfold kd; rw [if_pos h, if_neg (by omega), if_neg (by omega), if_neg (by omega), if_neg (by omega), if_neg (by omega), if_neg (by omega), if_neg (by omega)]⟩
theorem rSrv0 {r : Nat} (h : r < 11) : rf r 0 0 = none := by unfold rf; rw [if_pos h]; rfl
theorem rSrv1 {r : Nat} (h : r < 11) : rf r 0 1 = some (r, 1) := by unfold rf; rw [if_pos h]; rfl
theorem rSrv2 {r : Nat} (h : r < 11) : rf r 0 2 = some (r, 2) := by unfold rf; rw [if_pos h]; rfl
theorem rSrv3 {r : Nat} (h : r < 11) : rf r 0 3 = none := by unfold rf; rw [if_pos h]; rfl
theorem rSrv4 {r : Nat} (h : r < 11) : rf r 0 4 = some (r, 15) := by unfold rf; rw [if_pos h]; rfl
theorem rSrv5 {r : Nat} (h : r < 11) : rf r 0 5 = none := by unfold rf; rw [if_pos h]; rfl
theorem rSrv6 {r : Nat} (h : r < 11) : rf r 0 6 = some (r, 22) := by unfold rf; rw [if_pos h]; rfl
theorem rSrv7 {r : Nat} (h : r < 11) : rf r 0 7 = none := by unfold rf; rw [if_pos h]; rfl
theorem rSrv8 {r : Nat} (h : r < 11) : rf r 0 8 = none := by unfold rf; rw [if_pos h]; rfl
theorem rSrv9 {r : Nat} (h : r < 11) : rf r 0 9 = none := by unfold rf; rw [if_pos h]; rfl
theorem rSrv10 {r : Nat} (h : r < 11) : rf r 0 10 = none := by unfold rf; rw [if_pos h]; rfl
theorem rSet {r k : Nat} (h : r < 11) : rf r 1 k = none := by unfold rf; rw [if_pos h]; rfl
theorem rLns {r k : Nat} (h : r < 11) : rf r 2 k = some (r, 3 + k) := by unfold rf; rw [if_pos h]; rfl
theorem rTms {r k : Nat} (h : r < 11) : rf r 15 k = some (r, 16 + k) := by unfold rf; rw [if_pos h]; rfl
theorem rNst {r k : Nat} (h : r < 11) : rf r 22 k = some (r, 23 + k) := by unfold rf; rw [if_pos h]; rfl
theorem rLin {r i k : Nat} (h : r < 11) (hi : i < 12) : rf r (3 + i) k = none := by unfold rf; rw [if_pos h, if_neg (by omega), if_neg (by omega), if_neg (by omega), if_neg (by omega)]
theorem rTim {r i k : Nat} (h : r < 11) (hi : i < 6) : rf r (16 + i) k = none := by unfold rf; rw [if_pos h, if_neg (by omega), if_neg (by omega), if_neg (by omega), if_neg (by omega)]
theorem rSvc {r i k : Nat} (h : r < 11) (hi : i < 8) : rf r (23 + i) k = none := by unfold rf; rw [if_pos h, if_neg (by omega), if_neg (by omega), if_neg (by omega), if_neg (by omega)]
theorem oH0 {E : mE} : isO E 11 0 6 6 := ⟨Or.inr (Or.inl ⟨rfl, by decide⟩), rfl⟩
theorem oH1 {E : mE} : isO E 11 1 16 2 := ⟨Or.inr (Or.inl ⟨rfl, by decide⟩), rfl⟩
theorem oH2 {E : mE} : isO E 11 2 11 2 := ⟨Or.inr (Or.inl ⟨rfl, by decide⟩), rfl⟩
theorem oH3 {E : mE} : isO E 11 3 0 3 := ⟨Or.inr (Or.inl ⟨rfl, by decide⟩), rfl⟩
theorem oH4 {E : mE} : isO E 11 4 16 7 := ⟨Or.inr (Or.inl ⟨rfl, by decide⟩), rfl⟩
theorem oH5 {E : mE} : isO E 11 5 2 2 := ⟨Or.inr (Or.inl ⟨rfl, by decide⟩), rfl⟩
theorem oH6 {E : mE} : isO E 11 6 12 80 := ⟨Or.inr (Or.inl ⟨rfl, by decide⟩), rfl⟩
theorem oZ0 {E : mE} : isO E 12 0 10 7 := ⟨Or.inr (Or.inr (Or.inl ⟨rfl, by decide⟩)), rfl⟩
theorem oZ1 {E : mE} : isO E 12 1 10 7 := ⟨Or.inr (Or.inr (Or.inl ⟨rfl, by decide⟩)), rfl⟩
theorem oZ2 {E : mE} : isO E 12 2 10 7 := ⟨Or.inr (Or.inr (Or.inl ⟨rfl, by decide⟩)), rfl⟩
/-! small numbers -/
theorem lI (n : Nat) : (OfNat.ofNat n : Int32) = nI n := rfl
def cn (x : Int32) : Nat := x.toNatClampNeg
theorem ia {x y : Int32} {a b : Nat} (hx : x = nI a) (hy : y = nI b) : x + y = nI (a + b) := by rw [hx, hy]; exact nI_add a b
theorem im {x y : Int32} {a b : Nat} (hx : x = nI a) (hy : y = nI b) : x * y = nI (a * b) := by rw [hx, hy]; exact pk_mul a b
theorem isb {x y : Int32} {a b : Nat} (hx : x = nI a) (hy : y = nI b) (h : b ≤ a) : x - y = nI (a - b) := by rw [hx, hy]; exact pk_sub h
theorem c_le {x y : Int32} {a b : Nat} (hx : x = nI a) (hy : y = nI b) (h : a ≤ b) (hb : b < 2 ^ 31) : x ≤ y := by rw [hx, hy]; exact nI_le h hb
theorem c_nle {x y : Int32} {a b : Nat} (hx : x = nI a) (hy : y = nI b) (h : b < a) (ha : a < 2 ^ 31) : ¬ x ≤ y := by rw [hx, hy]; exact nI_ge h ha
theorem c_lt {x y : Int32} {a b : Nat} (hx : x = nI a) (hy : y = nI b) (h : a < b) (hb : b < 2 ^ 31) : x < y := by rw [hx, hy]; exact nI_lt h hb
theorem c_nlt {x y : Int32} {a b : Nat} (hx : x = nI a) (hy : y = nI b) (h : b ≤ a) (ha : a < 2 ^ 31) : ¬ x < y := by rw [hx, hy]; exact nI_nlt h ha
theorem znar {v : Int32} (h : v = 0 ∨ v = 1) : narrow .boolean (.int v) = .int v := by rcases h with rfl | rfl <;> rfl
theorem zfit {v : Int32} (h : v = 0 ∨ v = 1) : fits .boolean (.int v) = true := by rcases h with rfl | rfl <;> rfl
/-- f 0, f 1, .. in turn -/
def itN {α : Type} (f : Nat → α → α) : Nat → α → α
  | 0, a => a
  | n + 1, a => f n (itN f n a)
theorem itN_s {α : Type} (f : Nat → α → α) (n : Nat) (a : α) : itN f (n + 1) a = f n (itN f n a) := rfl
theorem nz0 {y : Int32} (h : ¬ y ≤ 0) : ¬ y = 0 := fun e => h (by rw [e]; exact Int32.le_refl 0)
/-! more rows: cells of another region; a walk over several regions -/
def vFst (j : Nat) : Int32 := match j with | 0 => 20 | 1 => 24 | 2 => 1 | 3 => 3 | 4 => 1 | 5 => 1 | _ => 0
def vLst (j : Nat) : Int32 := match j with | 2 => 1 | 3 => 1 | _ => 0
def vMst (j : Nat) : Int32 := match j with | 0 => 100 | 1 => 31 | 2 => 9 | 3 => 8 | 4 => 9 | 5 => 1 | _ => 31
section ROWSG
variable {p : Program} {l : Launch} {e : Env} {R : Room} {s : State} {m : MethodId} {args : Array Value} {below : List Frame} {meth : Method} {c : Code} {H : Heap} {locs : List Loc} {cells slots : Nat} {Q : State → Prop}
end ROWSG
def Bn (x : Int32) (b : Nat) : Prop := x = nI (cn x) ∧ cn x ≤ b
theorem bnI {n b : Nat} (h : n ≤ b) (hb : n < 2 ^ 31) : Bn (nI n) b := by
  have h1 : cn (nI n) = n := nI_clamp hb
  exact ⟨by rw [h1], by rw [h1]; exact h⟩
theorem iteP {P : Int32 → Prop} {c : Prop} {h : Decidable c} {a b : Int32} (h1 : P a) (h2 : P b) : P (@ite _ c h a b) := by
  by_cases hc : c
  · rw [if_pos hc]; exact h1
  · rw [if_neg hc]; exact h2
theorem bn_lt {x : Int32} {b c : Nat} (hx : Bn x b) (hb : b < 2 ^ 31) (hc : c < 2 ^ 31) (h : x < nI c) : cn x < c := by
  rw [hx.1] at h
  exact Nat.lt_of_not_le fun q => absurd h (nI_nlt q (Nat.lt_of_le_of_lt hx.2 hb))
/-- System.arraycopy of a server's settings into another's -/
def cpS (S T : Sv) : Sv := fun p k => if p = 1 ∧ k < 7 then T 1 k else S p k
theorem nz1 {y : Int64} (h : ¬ lg_cmp y 0 ≤ 0) : ¬ y = 0 := fun e => h (by rw [e]; decide)
theorem iteZ {c : Prop} {h : Decidable c} {a b : Int32} (h1 : a = 0 ∨ a = 1) (h2 : b = 0 ∨ b = 1) : (@ite _ c h a b) = 0 ∨ (@ite _ c h a b) = 1 := by
  by_cases hc : c
  · rw [if_pos hc]; exact h1
  · rw [if_neg hc]; exact h2
end
section
/-! class Line -/
def p_X1_becomeNew (S : Sv) (i : Nat) (b : Int32) : Sv :=
  let S1 : Sv := us S (3 + i) 3 b
  let S2 : Sv := us S1 (3 + i) 4 0
  let S3 : Sv := us S2 (3 + i) 5 0
  let S4 : Sv := us S3 (3 + i) 6 0
  let S5 : Sv := us S4 (3 + i) 7 (-6)
  let S6 : Sv := us S5 (3 + i) 8 0
  let S7 : Sv := us S6 (3 + i) 9 0
  let S8 : Sv := us S7 (3 + i) 10 0
  let S9 : Sv := us S8 (3 + i) 11 0
  let S10 : Sv := us S9 (3 + i) 12 0
  let S11 : Sv := us S10 (3 + i) 13 0
  let S12 : Sv := us S11 (3 + i) 14 0
  let S13 : Sv := us S12 (3 + i) 15 0
  S13
def p_X1_shape (S : Sv) (i : Nat) (a1 : Int32) (a2 : Int32) (a3 : Int32) : Sv :=
  let S1 : Sv := us S (3 + i) 0 a1
  let S2 : Sv := us S1 (3 + i) 1 a2
  let S3 : Sv := us S2 (3 + i) 2 a3
  S3
def p_X1_presentRank (S : Sv) (i : Nat) (ag : Int32) (cp : Int32) : Int32 :=
  if (S (3 + i) 5) = 0 then
    (S (3 + i) 0 : Int32)
  else
    if ag ≤ 0 then
      (S (3 + i) 0 : Int32)
    else
      if (S (3 + i) 0) < cp then
        let v5 : Int32 := (if cp ≤ ((S (3 + i) 0) + ((S (3 + i) 6) / ag)) then cp else (S (3 + i) 0) + ((S (3 + i) 6) / ag))
        (v5 : Int32)
      else
        (S (3 + i) 0 : Int32)
def p_X1_mayBegin (S : Sv) (i : Nat) : Int32 :=
  let v4 : Int32 := (if (S (3 + i) 5) = 0 then 0 else (if (S (3 + i) 4) = 0 then (if (S (3 + i) 7) = (-6) then 1 else 0) else 0))
  (v4 : Int32)
def p_X1_takeEdge (S : Sv) (i : Nat) (kp : Int32) : Int32 × Sv :=
  let S1 : Sv := us S (3 + i) 9 ((S (3 + i) 9) + 1)
  if (S1 (3 + i) 5) = 0 then
    if (S1 (3 + i) 4) = 0 then
      let S5 : Sv := us S1 (3 + i) 5 1
      let S6 : Sv := us S5 (3 + i) 6 0
      ((1 : Int32), S6)
    else
      if kp = 0 then
        let S10 : Sv := us S1 (3 + i) 10 ((S1 (3 + i) 10) + 1)
        ((0 : Int32), S10)
      else
        let S8 : Sv := us S1 (3 + i) 5 1
        let S9 : Sv := us S8 (3 + i) 6 0
        ((1 : Int32), S9)
  else
    let S3 : Sv := us S1 (3 + i) 10 ((S1 (3 + i) 10) + 1)
    ((0 : Int32), S3)
def p_X1_followDevices (S : Sv) (i : Nat) : Sv :=
  let v3 : Int32 := (if (S (3 + i) 8) = 0 then 0 else (if (S (3 + i) 7) = (-6) then 1 else 0))
  let S8 : Sv := (if v3 = 0 then S else (if (S (3 + i) 5) = 0 then (let S7 : Sv := us S (3 + i) 6 0; S7) else S))
  let S10 : Sv := us S8 (3 + i) 5 v3
  S10
def p_X1_moveDevice (S : Sv) (i : Nat) (d : Nat) (up : Int32) : Sv :=
  let v2 : Int32 := (if up = 0 then (S (3 + i) 8) &&& (((1 : Int32) <<< ((nI d) &&& 31)) ^^^ (-1)) else (S (3 + i) 8) ||| ((1 : Int32) <<< ((nI d) &&& 31)))
  let S4 : Sv := us S (3 + i) 8 v2
  let S5 : Sv := p_X1_followDevices S4 i
  S5
def p_X1_enterNest (S : Sv) (i : Nat) (pl : Int32) : Sv :=
  let S1 : Sv := us S (3 + i) 7 pl
  let S2 : Sv := us S1 (3 + i) 5 0
  let S3 : Sv := us S2 (3 + i) 11 ((S2 (3 + i) 11) + 1)
  let S4 : Sv := us S3 (3 + i) 14 ((S3 (3 + i) 14) + (S3 (3 + i) 6))
  let S7 : Sv := (if (S4 (3 + i) 6) ≤ (S4 (3 + i) 13) then S4 else (let S6 : Sv := us S4 (3 + i) 13 (S4 (3 + i) 6); S6))
  let S12 : Sv := (if (S7 (3 + i) 2) ≤ 0 then S7 else (if (S7 (3 + i) 6) ≤ (S7 (3 + i) 2) then S7 else (let S11 : Sv := us S7 (3 + i) 15 ((S7 (3 + i) 15) + 1); S11)))
  S12
def p_X1_leaveNest (S : Sv) (i : Nat) : Sv :=
  let S1 : Sv := us S (3 + i) 7 (-6)
  let S2 : Sv := us S1 (3 + i) 12 ((S1 (3 + i) 12) + 1)
  let S6 : Sv := (if (S2 (3 + i) 3) = 0 then S2 else (let S4 : Sv := us S2 (3 + i) 8 ((S2 (3 + i) 8) &&& ((S2 (3 + i) 8) - 1)); (let S5 : Sv := p_X1_followDevices S4 i; S5)))
  S6
def p_X1_number (S : Sv) (i : Nat) (wh : Int32) (ag : Int32) (cp : Int32) : Int32 :=
  if wh = 0 then
    (S (3 + i) 0 : Int32)
  else
    if wh = 1 then
      (S (3 + i) 1 : Int32)
    else
      if wh = 2 then
        (S (3 + i) 2 : Int32)
      else
        if wh = 3 then
          let v2 : Int32 := (if (S (3 + i) 3) = 0 then 0 else 1)
          (v2 : Int32)
        else
          if wh = 4 then
            let v5 : Int32 := (if (S (3 + i) 4) = 0 then 0 else 1)
            (v5 : Int32)
          else
            if wh = 5 then
              let v8 : Int32 := (if (S (3 + i) 5) = 0 then 0 else 1)
              (v8 : Int32)
            else
              if wh = 6 then
                let v11 : Int32 := (if (S (3 + i) 5) = 0 then (-6) else S (3 + i) 6)
                (v11 : Int32)
              else
                if wh = 7 then
                  let x13 : Int32 := p_X1_presentRank S i ag cp
                  (x13 : Int32)
                else
                  if wh = 8 then
                    (S (3 + i) 7 : Int32)
                  else
                    if wh = 9 then
                      (S (3 + i) 8 : Int32)
                    else
                      if wh = 10 then
                        (S (3 + i) 9 : Int32)
                      else
                        if wh = 11 then
                          (S (3 + i) 10 : Int32)
                        else
                          if wh = 12 then
                            (S (3 + i) 11 : Int32)
                          else
                            if wh = 13 then
                              (S (3 + i) 12 : Int32)
                            else
                              if wh = 14 then
                                (S (3 + i) 13 : Int32)
                              else
                                if wh = 15 then
                                  (S (3 + i) 14 : Int32)
                                else
                                  if wh = 16 then
                                    (S (3 + i) 15 : Int32)
                                  else
                                    ((-2) : Int32)
end
section
/-! services, timers, statics, copies of rows, arraycopy -/
def p_X4_number (S : Sv) (i : Nat) (wh : Int32) : Int32 :=
  if wh = 0 then
    (S (23 + i) 0 : Int32)
  else
    if wh = 1 then
      (S (23 + i) 1 : Int32)
    else
      if wh = 2 then
        (S (23 + i) 2 : Int32)
      else
        if wh = 3 then
          (S (23 + i) 3 : Int32)
        else
          ((-2) : Int32)
def p_X5_number (S : Sv) (i : Nat) (wh : Int32) : Int32 :=
  if wh = 0 then
    (S (16 + i) 0 : Int32)
  else
    if wh = 1 then
      (S (16 + i) 1 : Int32)
    else
      if wh = 2 then
        (S (16 + i) 2 : Int32)
      else
        ((-2) : Int32)
def p_X6_within (a : Int32) (b : Int32) (d : Int32) : Int32 :=
  let v3 : Int32 := (if a < b then 0 else (if d < a then 0 else 1))
  (v3 : Int32)
def p_X6_dividedUp (a : Int64) (b : Int64) : Int64 :=
  let v2 : Int64 := (if (lg_cmp b 0) ≤ 0 then 0 else ((a + b) - 1) / b)
  (v2 : Int64)
def p_X5_copyFromS (S : Sv) (i : Nat) (k2 : Nat) : Sv :=
  let S1 : Sv := us S (16 + i) 0 (S (16 + k2) 0)
  let S2 : Sv := us S1 (16 + i) 1 (S1 (16 + k2) 1)
  let S3 : Sv := us S2 (16 + i) 2 (S2 (16 + k2) 2)
  S3
def p_X1_copyFromO (S : Sv) (i : Nat) (T : Sv) : Sv :=
  let S1 : Sv := us S (3 + i) 0 (T (3 + i) 0)
  let S2 : Sv := us S1 (3 + i) 1 (T (3 + i) 1)
  let S3 : Sv := us S2 (3 + i) 2 (T (3 + i) 2)
  let S4 : Sv := us S3 (3 + i) 3 (T (3 + i) 3)
  let S5 : Sv := us S4 (3 + i) 4 (T (3 + i) 4)
  let S6 : Sv := us S5 (3 + i) 5 (T (3 + i) 5)
  let S7 : Sv := us S6 (3 + i) 6 (T (3 + i) 6)
  let S8 : Sv := us S7 (3 + i) 7 (T (3 + i) 7)
  let S9 : Sv := us S8 (3 + i) 8 (T (3 + i) 8)
  let S10 : Sv := us S9 (3 + i) 9 (T (3 + i) 9)
  let S11 : Sv := us S10 (3 + i) 10 (T (3 + i) 10)
  let S12 : Sv := us S11 (3 + i) 11 (T (3 + i) 11)
  let S13 : Sv := us S12 (3 + i) 12 (T (3 + i) 12)
  let S14 : Sv := us S13 (3 + i) 13 (T (3 + i) 13)
  let S15 : Sv := us S14 (3 + i) 14 (T (3 + i) 14)
  let S16 : Sv := us S15 (3 + i) 15 (T (3 + i) 15)
  S16
def p_X5_copyFromO (S : Sv) (i : Nat) (T : Sv) : Sv :=
  let S1 : Sv := us S (16 + i) 0 (T (16 + i) 0)
  let S2 : Sv := us S1 (16 + i) 1 (T (16 + i) 1)
  let S3 : Sv := us S2 (16 + i) 2 (T (16 + i) 2)
  S3
def p_X4_copyFromO (S : Sv) (i : Nat) (T : Sv) : Sv :=
  let S1 : Sv := us S (23 + i) 0 (T (23 + i) 0)
  let S2 : Sv := us S1 (23 + i) 1 (T (23 + i) 1)
  let S3 : Sv := us S2 (23 + i) 2 (T (23 + i) 2)
  let S4 : Sv := us S3 (23 + i) 3 (T (23 + i) 3)
  S4
theorem wn_acS : Cond.static arraycopyName ∈ TB := tb_in 242 (by decide +kernel) rfl
theorem wn_acN : Cond.native arraycopyName ∈ TB := tb_in 243 (by decide +kernel) rfl
theorem wn_sys : Cond.initialized "java/lang/System" ∈ TB := tb_in 8 (by decide +kernel) rfl
theorem arrV_congr {cA : ClassId} {n : Nat} {f g : Nat → Value} (h : ∀ j, j < n → f j = g j) : arrV cA n f = arrV cA n g := by
  have e : (fun j : Fin n => f j.val) = fun j : Fin n => g j.val := funext fun j => h j.val j.2
  unfold arrV
  rw [e]
end
section
/-! class Server: what changes no ticks -/
theorem b_within {a b d : Int32} : p_X6_within a b d = 0 ∨ p_X6_within a b d = 1 := by
  unfold p_X6_within
  dsimp only
  repeat' split
  all_goals simp
/-- what 'within' told -/
theorem wN {a c x : Int32} {n : Nat} (hc : c = nI n) (hn : n < 2 ^ 31) (hx : x = p_X6_within a 0 c) (h : ¬ x = 0) : a = nI (cn a) ∧ cn a ≤ n := by
  subst hx
  unfold p_X6_within at h
  by_cases h1 : a < 0
  · exfalso
    apply h
    first | (rw [if_pos h1]; done) | simp [h1]
  · by_cases h2 : c < a
    · exfalso
      apply h
      simp [h1, h2]
    · have h3 : a ≤ c := Int32.not_lt.mp h2
      rw [hc] at h3
      obtain ⟨j, hj, hej⟩ := nI_of2 (nI_toInt hn) h1 h3
      have hcn : cn a = j := by rw [hej]; exact nI_clamp (Nat.lt_of_le_of_lt hj hn)
      exact ⟨by rw [hcn]; exact hej, by rw [hcn]; exact hj⟩
theorem wL {a c x : Int32} {n : Nat} (hc : Bn c n) (hn : n < 2 ^ 31) (hx : x = p_X6_within a 0 (c - 1)) (h : ¬ x = 0) : a = nI (cn a) ∧ cn a < cn c := by
  by_cases h0 : cn c = 0
  · exfalso
    apply h
    have hc0 : c = 0 := by rw [hc.1, h0]; exact nI_0
    subst hx
    unfold p_X6_within
    rw [hc0]
    by_cases h1 : a < 0
    · simp [h1]
    · have h2 : (0 : Int32) - 1 < a := by
        have h3 : (0 : Int32) ≤ a := Int32.not_lt.mp h1
        rw [Int32.le_iff_toInt_le] at h3
        rw [Int32.lt_iff_toInt_lt]
        have e1 : ((0 : Int32) - 1).toInt = -1 := by decide
        have e0 : (0 : Int32).toInt = 0 := by decide
        omega
      show (if a < 0 then (0 : Int32) else if 0 - 1 < a then 0 else 1) = 0
      rw [if_neg h1, if_pos h2]
  · have h1 := wN (a := a) (isb hc.1 (lI 1) (by omega)) (by have := hc.2; omega) hx h
    exact ⟨h1.1, by have := h1.2; omega⟩
theorem bn_ltc {x : Int32} {b : Nat} (hx : Bn x b) (hb : b < 2 ^ 31) {y : Int32} {c : Nat} (hy : y = nI c) (hc : c < 2 ^ 31) (h : x < y) : cn x < c := bn_lt hx hb hc (hy ▸ h)
theorem c_ge {x y : Int32} {a b : Nat} (hx : x = nI a) (hy : y = nI b) (h : x ≤ y) (ha : a < 2 ^ 31) (hb : b < 2 ^ 31 := by decide) : a ≤ b := by
  rw [hx, hy] at h
  exact (nI_leI ha hb).mp h
theorem sub12 {w : Int32} (h1 : ¬ w < 12) (h2 : ¬ 7 ≤ w - 12) : w - 12 = nI (cn (w - 12)) ∧ cn (w - 12) < 7 := by
  have h3 : w - 12 < 7 := Int32.not_le.mp h2
  have h4 : ¬ (w - 12) < 0 := by
    have h5 : (12 : Int32) ≤ w := Int32.not_lt.mp h1
    rw [Int32.le_iff_toInt_le] at h5
    rw [Int32.lt_iff_toInt_lt]
    have e12 : (12 : Int32).toInt = 12 := by decide
    have e0 : (0 : Int32).toInt = 0 := by decide
    have hb := Int32.toInt_lt w
    rw [Jvm.Kit.i32_sub (by omega) (by omega), e12, e0]
    omega
  obtain ⟨j, hj, hej⟩ := nI_of2 (M := 7) (n := 7) (by decide) h4 (Int32.le_of_lt h3)
  have hcn : cn (w - 12) = j := by rw [hej]; exact nI_clamp (by omega)
  refine ⟨by rw [hcn]; exact hej, ?_⟩
  rw [hcn]
  rw [hej] at h3
  have h7 := (nI_ltI (a := j) (b := 7) (by omega) (by omega)).mp h3
  exact h7
/-- a line's row alone is written -/
theorem fr_becomeNew {S : Sv} {i p k : Nat} {b : Int32} (h : ¬ p = 3 + i) : p_X1_becomeNew S i b p k = S p k := by simp [p_X1_becomeNew, us, h]
theorem fr_shape {S : Sv} {i p k : Nat} {a b d : Int32} (h : ¬ p = 3 + i) : p_X1_shape S i a b d p k = S p k := by simp [p_X1_shape, us, h]
theorem fr_takeEdge {S : Sv} {i p k : Nat} {b : Int32} (h : ¬ p = 3 + i) : (p_X1_takeEdge S i b).2 p k = S p k := by
  unfold p_X1_takeEdge
  dsimp only
  repeat' split
  all_goals simp [us, h]
theorem fr_followDevices {S : Sv} {i p k : Nat} (h : ¬ p = 3 + i) : p_X1_followDevices S i p k = S p k := by
  unfold p_X1_followDevices
  dsimp only
  repeat' split
  all_goals simp [us, h]
theorem fr_moveDevice {S : Sv} {i d p k : Nat} {up : Int32} (h : ¬ p = 3 + i) : p_X1_moveDevice S i d up p k = S p k := by
  unfold p_X1_moveDevice
  rw [fr_followDevices h]
  simp [us, h]
theorem fr_enterNest {S : Sv} {i p k : Nat} {pl : Int32} (h : ¬ p = 3 + i) : p_X1_enterNest S i pl p k = S p k := by
  unfold p_X1_enterNest
  dsimp only
  repeat' split
  all_goals simp [us, h]
theorem fr_leaveNest {S : Sv} {i p k : Nat} (h : ¬ p = 3 + i) : p_X1_leaveNest S i p k = S p k := by
  unfold p_X1_leaveNest
  dsimp only
  repeat' split
  all_goals first | (rw [fr_followDevices h]; simp [us, h]; done) | simp [us, h]

def p_X3_hasLine (S : Sv) (ln : Int32) : Int32 :=
  let x1 : Int32 := p_X6_within ln 0 ((S 0 3) - 1)
  (x1 : Int32)

def p_X3_hasTimer (S : Sv) (tm : Int32) : Int32 :=
  let x1 : Int32 := p_X6_within tm 0 ((S 0 5) - 1)
  (x1 : Int32)

def p_X3_changeSetting (S : Sv) (st : Int32) (vl : Int32) : Int32 × Sv :=
  let x1 : Int32 := p_X6_within st 0 (7 - 1)
  if x1 = 0 then
    (((-2) : Int32), S)
  else
    let x3 : Int32 := p_X6_within vl (vLst (cn st)) (vMst (cn st))
    if x3 = 0 then
      (((-2) : Int32), S)
    else
      let S5 : Sv := us S 1 (cn st) vl
      ((S 1 (cn st) : Int32), S5)

def p_X3_isShape (a : Int32) (b : Int32) (d : Int32) : Int32 :=
  let x1 : Int32 := p_X6_within a 0 15
  let v7 : Int32 := (if x1 = 0 then 0 else (let x3 : Int32 := p_X6_within b 1 50; (if x3 = 0 then 0 else (let x5 : Int32 := p_X6_within d 0 500; (if x5 = 0 then 0 else 1)))))
  (v7 : Int32)
def p_X3_addLine (S : Sv) (a : Int32) (b : Int32) (d : Int32) (lv : Int32) : Int32 × Sv :=
  let x1 : Int32 := p_X3_isShape a b d
  if x1 = 0 then
    (((-2) : Int32), S)
  else
    let x3 : Int32 := p_X6_within lv 0 1
    if x3 = 0 then
      (((-2) : Int32), S)
    else
      if (S 0 3) < 12 then
        let v7 : Int32 := (if lv = 1 then 1 else 0)
        let S9 : Sv := p_X1_becomeNew S (cn (S 0 3)) v7
        let S10 : Sv := p_X1_shape S9 (cn (S 0 3)) a b d
        let S11 : Sv := us S10 0 3 ((S10 0 3) + 1)
        (((S11 0 3) - 1 : Int32), S11)
      else
        (((-4) : Int32), S)

def p_X3_changeLine (S : Sv) (ln : Int32) (a : Int32) (b : Int32) (d : Int32) : Int32 × Sv :=
  let x1 : Int32 := p_X3_hasLine S ln
  if x1 = 0 then
    (((-1) : Int32), S)
  else
    let x3 : Int32 := p_X3_isShape a b d
    if x3 = 0 then
      (((-2) : Int32), S)
    else
      let S5 : Sv := p_X1_shape S (cn ln) a b d
      ((S (3 + (cn ln)) 0 : Int32), S5)

def p_X3_addTimer (S : Sv) (ln : Int32) (pe : Int32) (fi : Int32) : Int32 × Sv :=
  let x1 : Int32 := p_X3_hasLine S ln
  if x1 = 0 then
    (((-1) : Int32), S)
  else
    let x3 : Int32 := p_X6_within pe 1 200
    if x3 = 0 then
      (((-2) : Int32), S)
    else
      let x5 : Int32 := p_X6_within fi (S 0 0) ((S 0 0) + 500)
      if x5 = 0 then
        (((-2) : Int32), S)
      else
        if (S 0 5) < 6 then
          if (S (3 + (cn ln)) 3) = 0 then
            let S9 : Sv := us S (16 + (cn (S 0 5))) 0 ln
            let S10 : Sv := us S9 (16 + (cn (S 0 5))) 1 pe
            let S11 : Sv := us S10 (16 + (cn (S 0 5))) 2 fi
            let S12 : Sv := us S11 0 5 ((S11 0 5) + 1)
            (((S12 0 5) - 1 : Int32), S12)
          else
            (((-5) : Int32), S)
        else
          (((-4) : Int32), S)

def p_X3_raiseLine (S : Sv) (ln : Int32) : Int32 × Sv :=
  let x1 : Int32 := p_X3_hasLine S ln
  if x1 = 0 then
    (((-1) : Int32), S)
  else
    if (S (3 + (cn ln)) 3) = 0 then
      let v5 : Int32 := (if (S 1 5) = 1 then 1 else 0)
      let x7 : Int32 := (p_X1_takeEdge S (cn ln) v5).1
      let S8 : Sv := (p_X1_takeEdge S (cn ln) v5).2
      let v10 : Int32 := (if x7 = 0 then 0 else 1)
      ((v10 : Int32), S8)
    else
      (((-5) : Int32), S)

def p_X3_holdLine (S : Sv) (ln : Int32) (dv : Int32) (up : Int32) : Int32 × Sv :=
  let x1 : Int32 := p_X3_hasLine S ln
  if x1 = 0 then
    (((-1) : Int32), S)
  else
    let x3 : Int32 := p_X6_within dv 0 3
    if x3 = 0 then
      (((-2) : Int32), S)
    else
      let x5 : Int32 := p_X6_within up 0 1
      if x5 = 0 then
        (((-2) : Int32), S)
      else
        if (S (3 + (cn ln)) 3) = 0 then
          (((-5) : Int32), S)
        else
          let v9 : Int32 := (if up = 1 then 1 else 0)
          let S11 : Sv := p_X1_moveDevice S (cn ln) (cn dv) v9
          ((S11 (3 + (cn ln)) 8 : Int32), S11)

def p_X3_maskLine (S : Sv) (ln : Int32) (is : Int32) : Int32 × Sv :=
  let x1 : Int32 := p_X3_hasLine S ln
  if x1 = 0 then
    (((-1) : Int32), S)
  else
    let x3 : Int32 := p_X6_within is 0 1
    if x3 = 0 then
      (((-2) : Int32), S)
    else
      let v6 : Int32 := (if (S (3 + (cn ln)) 4) = 0 then 0 else 1)
      let v9 : Int32 := (if is = 1 then 1 else 0)
      let S11 : Sv := us S (3 + (cn ln)) 4 v9
      ((v6 : Int32), S11)

def p_X3_costOf (S : Sv) (li : Nat) : Int32 :=
  ((S (3 + li) 1) + (S 1 4) : Int32)

def p_X3_numberOfLine (S : Sv) (ln : Int32) (wh : Int32) : Int32 :=
  let x1 : Int32 := p_X3_hasLine S ln
  if x1 = 0 then
    ((-1) : Int32)
  else
    let x3 : Int32 := p_X1_number S (cn ln) wh (S 1 0) (S 1 1)
    (x3 : Int32)

def p_X3_numberOfPlace (S : Sv) (pl : Int32) (wh : Int32) : Int32 :=
  let x1 : Int32 := p_X6_within pl 0 ((S 0 7) - 1)
  let v4 : Int32 := (if x1 = 0 then (-1) else (let x3 : Int32 := p_X4_number S (cn pl) wh; x3))
  (v4 : Int32)

def p_X3_numberOfTimer (S : Sv) (tm : Int32) (wh : Int32) : Int32 :=
  let x1 : Int32 := p_X3_hasTimer S tm
  let v4 : Int32 := (if x1 = 0 then (-1) else (let x3 : Int32 := p_X5_number S (cn tm) wh; x3))
  (v4 : Int32)

def q_X3_waitingLines_4 (S : Sv) (j : Nat) (σ : Int32) : Int32 :=
  let v1 : Int32 := σ
  let v4 : Int32 := (if (S (3 + j) 5) = 0 then v1 else v1 ||| ((1 : Int32) <<< ((nI j) &&& 31)))
  v4
def p_X3_waitingLines (S : Sv) : Int32 :=
  let v1 : Int32 := (itN (q_X3_waitingLines_4 S) (cn (S 0 3)) (0))
  (v1 : Int32)

def q_X3_missesOfAll_4 (S : Sv) (j : Nat) (σ : Int32) : Int32 :=
  let v1 : Int32 := σ
  v1 + (S (3 + j) 15)
def p_X3_missesOfAll (S : Sv) : Int32 :=
  let v1 : Int32 := (itN (q_X3_missesOfAll_4 S) (cn (S 0 3)) (0))
  (v1 : Int32)

def q_X3_greatestCostBelow_4 (S : Sv) (rk : Int32) (j : Nat) (σ : Int32) : Int32 :=
  let v1 : Int32 := σ
  let v7 : Int32 := (if rk ≤ (S (3 + j) 0) then v1 else (let x4 : Int32 := p_X3_costOf S j; (if x4 ≤ v1 then v1 else (let x6 : Int32 := p_X3_costOf S j; x6))))
  v7
def p_X3_greatestCostBelow (S : Sv) (rk : Int32) : Int32 :=
  let v1 : Int32 := (itN (q_X3_greatestCostBelow_4 S rk) (cn (S 0 3)) (0))
  (v1 : Int32)
end
section
/-! class Server: ticks -/
theorem ntk {x : Int32} {b : Nat} (h : Bn x b) (h0 : ¬ x = 0) : 0 < cn x := Nat.pos_of_ne_zero fun e => h0 (by rw [h.1, e]; exact nI_0)

def p_X3_nestTakes (S : Sv) (rk : Int32) : Int32 :=
  if (S 0 7) = 0 then
    (1 : Int32)
  else
    let v4 : Int32 := (if (S 1 3) ≤ (S 0 7) then 0 else (if 8 ≤ (S 0 7) then 0 else 1))
    let v8 : Int32 := (if v4 = 0 then 0 else (if rk < ((S (23 + (cn (S 0 7) - 1)) 1) + (S 1 2)) then 0 else 1))
    (v8 : Int32)

def q_X3_growWaits_2 (S : Sv) (j : Nat) (σ : Sv) : Sv :=
  let S1 : Sv := σ
  let S5 : Sv := (if (S1 (3 + j) 5) = 0 then S1 else (let S4 : Sv := us S1 (3 + j) 6 ((S1 (3 + j) 6) + 1); S4))
  S5
def p_X3_growWaits (S : Sv) : Sv :=
  let S1 : Sv := (itN (q_X3_growWaits_2 S) (cn (S 0 3)) (S))
  S1

theorem gw_keep {S : Sv} : ∀ n p k, ¬ k = 6 → itN (q_X3_growWaits_2 S) n S p k = S p k := by
  intro n
  induction n with
  | zero => intro p k _; rfl
  | succ n ih =>
    intro p k hk
    rw [itN_s]
    unfold q_X3_growWaits_2
    dsimp only
    split
    · exact ih p k hk
    · rw [us_ne _ _ (fun z => hk z.2)]
      exact ih p k hk

def q_X3_raiseByTimers_2 (S : Sv) (j : Nat) (σ : Sv) : Sv :=
  let S1 : Sv := σ
  let S10 : Sv := (if (S1 0 0) < (S1 (16 + j) 2) then S1 else (let v5 : Int32 := (if (S1 1 5) = 1 then 1 else 0); (let x7 : Int32 := (p_X1_takeEdge S1 (cn (S (16 + j) 0)) v5).1; (let S8 : Sv := (p_X1_takeEdge S1 (cn (S (16 + j) 0)) v5).2; (let S9 : Sv := us S8 (16 + j) 2 ((S8 (16 + j) 2) + (S8 (16 + j) 1)); S9)))))
  S10
def p_X3_raiseByTimers (S : Sv) : Sv :=
  let S1 : Sv := (itN (q_X3_raiseByTimers_2 S) (cn (S 0 5)) (S))
  S1

theorem rt_keep {S : Sv} {t : Nat} (ht : t ≤ 6) (hq : ∀ q, q < t → Bn (S (16 + q) 0) 11) : ∀ n, n ≤ t → ∀ p k, (p < 3 ∨ 15 ≤ p) → ¬ (16 ≤ p ∧ p < 22 ∧ k = 2) → itN (q_X3_raiseByTimers_2 S) n S p k = S p k := by
  intro n
  induction n with
  | zero => intro _ p k _ _; rfl
  | succ n ih =>
    intro hn p k hp hk
    rw [itN_s]
    have h0 := ih (by omega) p k hp hk
    have hb := (hq n (by omega)).2
    unfold q_X3_raiseByTimers_2
    dsimp only
    split
    · exact h0
    · rw [us_ne _ _ (by omega), fr_takeEdge (by omega)]
      exact h0

def q_X3_foundLine_7 (S : Sv) (j : Nat) (σ : Int32 × Int32) : Int32 × Int32 :=
  let v1 : Int32 := σ.1
  let v2 : Int32 := σ.2
  let x4 : Int32 := p_X1_mayBegin S j
  let v15 : Int32 := (if x4 = 0 then v1 else (let x6 : Int32 := p_X1_presentRank S j (S 1 0) (S 1 1); (if (S 1 6) ≤ x6 then (let v12 : Int32 := (if v2 = (-6) then 1 else (if v1 < x6 then 1 else (if x6 = v1 then (if (S (3 + j) 6) ≤ (S (3 + (cn v2)) 6) then 0 else 1) else 0))); (if v12 = 0 then v1 else x6)) else v1)))
  let v16 : Int32 := (if x4 = 0 then v2 else (let x6 : Int32 := p_X1_presentRank S j (S 1 0) (S 1 1); (if (S 1 6) ≤ x6 then (let v12 : Int32 := (if v2 = (-6) then 1 else (if v1 < x6 then 1 else (if x6 = v1 then (if (S (3 + j) 6) ≤ (S (3 + (cn v2)) 6) then 0 else 1) else 0))); (if v12 = 0 then v2 else nI j)) else v2)))
  (v15, v16)
def p_X3_foundLine (S : Sv) : Int32 :=
  let v1 : Int32 := (itN (q_X3_foundLine_7 S) (cn (S 0 3)) (0, (-6))).1
  let v2 : Int32 := (itN (q_X3_foundLine_7 S) (cn (S 0 3)) (0, (-6))).2
  (v2 : Int32)

def Fdx (x : Int32) : Prop := x = (-6) ∨ Bn x 11
theorem fd_it {S : Sv} : ∀ n, n ≤ 12 → Fdx (itN (q_X3_foundLine_7 S) n (0, (-6))).2 := by
  intro n
  induction n with
  | zero => intro _; exact Or.inl rfl
  | succ n ih =>
    intro hn
    have h0 := ih (by omega)
    rw [itN_s]
    generalize itN (q_X3_foundLine_7 S) n (0, (-6)) = σ at h0 ⊢
    unfold q_X3_foundLine_7
    dsimp only
    repeat' (first | exact h0 | exact Or.inr (bnI (by omega) (by omega)) | refine iteP (P := Fdx) ?_ ?_)

/-- counts and numbers of lines in their ranges -/
def Wf (S : Sv) : Prop := Bn (S 0 3) 12 ∧ Bn (S 0 5) 6 ∧ Bn (S 0 7) 8 ∧ (∀ q, q < cn (S 0 5) → Bn (S (16 + q) 0) 11) ∧ ∀ q, q < cn (S 0 7) → Bn (S (23 + q) 0) 11
theorem wf_raise {S : Sv} (h : Wf S) : Wf (p_X3_raiseByTimers S) := by
  have hk := rt_keep h.2.1.2 h.2.2.2.1 (cn (S 0 5)) (Nat.le_refl _)
  exact h.same (hk 0 3 (by omega) (by omega)) (hk 0 5 (by omega) (by omega)) (hk 0 7 (by omega) (by omega)) (fun q hq => hk _ 0 (by omega) (by omega)) (fun q hq => hk _ 0 (by omega) (by omega))
theorem wf_grow {S : Sv} (h : Wf S) : Wf (p_X3_growWaits S) := by
  have hk := fun p => gw_keep (S := S) (cn (S 0 3)) p
  exact h.same (hk 0 3 (by decide)) (hk 0 5 (by decide)) (hk 0 7 (by decide)) (fun q _ => hk _ 0 (by decide)) (fun q _ => hk _ 0 (by decide))
theorem fd_res {S : Sv} (hn : Bn (S 0 3) 12) : p_X3_foundLine S = (-6) ∨ Bn (p_X3_foundLine S) 11 := fd_it (S := S) _ hn.2
theorem nt_room {S : Sv} {rk x : Int32} (hd : Bn (S 0 7) 8) (hx : x = p_X3_nestTakes S rk) (h : ¬ x = 0) : cn (S 0 7) < 8 := by
  subst hx
  unfold p_X3_nestTakes at h
  by_cases h1 : S 0 7 = 0
  · rw [h1]; decide
  · rw [if_neg h1] at h
    dsimp only at h
    by_cases h2 : S 1 3 ≤ S 0 7
    · rw [if_pos h2] at h
      exact absurd rfl h
    · by_cases h3 : 8 ≤ S 0 7
      · rw [if_neg h2, if_pos h3] at h
        exact absurd rfl h
      · exact bn_ltc hd (by decide) (lI 8) (by decide) (Int32.not_le.mp h3)

def p_X3_beginFoundLine (S : Sv) : Int32 × Sv :=
  let x1 : Int32 := p_X3_foundLine S
  if x1 = (-6) then
    (((-6) : Int32), S)
  else
    let x3 : Int32 := p_X1_presentRank S (cn x1) (S 1 0) (S 1 1)
    let x4 : Int32 := p_X3_nestTakes S x3
    if x4 = 0 then
      (((-6) : Int32), S)
    else
      let S8 : Sv := (if (S 0 7) ≤ 0 then S else (let S7 : Sv := us S 0 10 ((S 0 10) + 1); S7))
      let S10 : Sv := us S8 (23 + (cn (S 0 7))) 0 x1
      let S11 : Sv := us S10 (23 + (cn (S 0 7))) 1 x3
      let x12 : Int32 := p_X3_costOf S11 (cn x1)
      let S13 : Sv := us S11 (23 + (cn (S 0 7))) 2 x12
      let S14 : Sv := us S13 (23 + (cn (S 0 7))) 3 (S13 0 0)
      let S15 : Sv := p_X1_enterNest S14 (cn x1) (S14 0 7)
      let S16 : Sv := us S15 0 7 ((S15 0 7) + 1)
      let S19 : Sv := (if (S16 0 7) ≤ (S16 0 9) then S16 else (let S18 : Sv := us S16 0 9 (S16 0 7); S18))
      ((x1 : Int32), S19)

def p_X3_serveTop (S : Sv) : Sv :=
  if (S 0 7) = 0 then
    S
  else
    let S2 : Sv := us S 0 8 ((S 0 8) + 1)
    let S3 : Sv := us S2 (23 + (cn (S 0 7) - 1)) 2 ((S2 (23 + (cn (S 0 7) - 1)) 2) - 1)
    let S7 : Sv := (if 0 < (S3 (23 + (cn (S 0 7) - 1)) 2) then S3 else (let S5 : Sv := us S3 0 7 ((S3 0 7) - 1); (let S6 : Sv := p_X1_leaveNest S5 (cn (S (23 + (cn (S 0 7) - 1)) 0)); S6)))
    S7
end
section
/-! class Server: a tick, forecasts, sums, copies -/
theorem bn_dec {x : Int32} {b : Nat} (h : Bn x b) (h0 : 0 < cn x) (hb : b < 2 ^ 31) : cn (x - 1) = cn x - 1 ∧ Bn (x - 1) b := by
  have h1 := isb h.1 (lI 1) h0
  have h2 := h.2
  have h3 : cn (x - 1) = cn x - 1 := by rw [h1]; exact nI_clamp (by omega)
  exact ⟨h3, by rw [h3]; exact h1, by omega⟩
theorem bn_inc {x : Int32} {b : Nat} (h : Bn x b) (h0 : cn x < b) (hb : b < 2 ^ 31) : cn (x + 1) = cn x + 1 ∧ Bn (x + 1) b := by
  have h1 := ia h.1 (lI 1)
  have h3 : cn (x + 1) = cn x + 1 := by rw [h1]; exact nI_clamp (by omega)
  exact ⟨h3, by rw [h3]; exact h1, by omega⟩
theorem wf_serve {S : Sv} (h : Wf S) : Wf (p_X3_serveTop S) := by
  obtain ⟨a, b, d, e, f⟩ := id h
  unfold p_X3_serveTop
  split
  · exact h
  · next h0 =>
    have hd0 := ntk d h0
    have hd2 := d.2
    have hle := (f (cn (S 0 7) - 1) (by omega)).2
    have hb2 := b.2
    dsimp only
    split
    · exact h.same (by simp [us]) (by simp [us]) (by simp [us]) (fun q _ => by simp [us]) (fun q _ => by simp [us])
    · generalize cn (S (23 + (cn (S 0 7) - 1)) 0) = y at hle ⊢
      obtain ⟨hc, hB⟩ := bn_dec d hd0 (by decide)
      have e3 : ∀ k, ¬ k = 7 → ¬ k = 8 → p_X1_leaveNest (us (us (us S 0 8 (S 0 8 + 1)) (23 + (cn (S 0 7) - 1)) 2 ((us S 0 8 (S 0 8 + 1)) (23 + (cn (S 0 7) - 1)) 2 - 1)) 0 7 ((us (us S 0 8 (S 0 8 + 1)) (23 + (cn (S 0 7) - 1)) 2 ((us S 0 8 (S 0 8 + 1)) (23 + (cn (S 0 7) - 1)) 2 - 1)) 0 7 - 1)) y 0 k = S 0 k := fun k h7 h8 => by
        rw [fr_leaveNest (by omega)]
        simp [us, h7, h8, show ¬ (0 = 23 + (cn (S 0 7) - 1)) by omega]
      have e7 : p_X1_leaveNest (us (us (us S 0 8 (S 0 8 + 1)) (23 + (cn (S 0 7) - 1)) 2 ((us S 0 8 (S 0 8 + 1)) (23 + (cn (S 0 7) - 1)) 2 - 1)) 0 7 ((us (us S 0 8 (S 0 8 + 1)) (23 + (cn (S 0 7) - 1)) 2 ((us S 0 8 (S 0 8 + 1)) (23 + (cn (S 0 7) - 1)) 2 - 1)) 0 7 - 1)) y 0 7 = S 0 7 - 1 := by
        rw [fr_leaveNest (by omega)]
        simp [us]
      have eo : ∀ p, 15 ≤ p → p_X1_leaveNest (us (us (us S 0 8 (S 0 8 + 1)) (23 + (cn (S 0 7) - 1)) 2 ((us S 0 8 (S 0 8 + 1)) (23 + (cn (S 0 7) - 1)) 2 - 1)) 0 7 ((us (us S 0 8 (S 0 8 + 1)) (23 + (cn (S 0 7) - 1)) 2 ((us S 0 8 (S 0 8 + 1)) (23 + (cn (S 0 7) - 1)) 2 - 1)) 0 7 - 1)) y p 0 = S p 0 := fun p hp => by
        rw [fr_leaveNest (by omega)]
        simp [us]
      refine ⟨by rw [e3 3 (by decide) (by decide)]; exact a, by rw [e3 5 (by decide) (by decide)]; exact b, by rw [e7]; exact hB, fun q hq => ?_, fun q hq => ?_⟩
      · rw [e3 5 (by decide) (by decide)] at hq
        rw [eo _ (by omega)]
        exact e q hq
      · rw [e7, hc] at hq
        rw [eo _ (by omega)]
        exact f q (by omega)
theorem wf_begin {S : Sv} (h : Wf S) : Wf (p_X3_beginFoundLine S).2 := by
  obtain ⟨a, b, d, e, f⟩ := id h
  unfold p_X3_beginFoundLine
  dsimp only
  split
  · exact h
  · next hx =>
    split
    · exact h
    · next ht =>
      have hb := (fd_res a).resolve_left hx
      have hb11 := hb.2
      have hd8 := nt_room d rfl ht
      have hb2 := b.2
      generalize p_X3_costOf _ _ = z1
      generalize p_X1_presentRank S (cn (p_X3_foundLine S)) (S 1 0) (S 1 1) = z2
      generalize p_X3_foundLine S = x at hb hb11 ⊢
      have hS8 : ∀ p k, ¬ (p = 0 ∧ k = 10) → (if S 0 7 ≤ 0 then S else us S 0 10 (S 0 10 + 1)) p k = S p k := fun p k hpk => by
        split
        · rfl
        · exact us_ne _ _ hpk
      generalize (if S 0 7 ≤ 0 then S else us S 0 10 (S 0 10 + 1)) = S8 at hS8 ⊢
      generalize hS14 : us (us (us (us S8 (23 + cn (S 0 7)) 0 x) (23 + cn (S 0 7)) 1 z2) (23 + cn (S 0 7)) 2 z1) (23 + cn (S 0 7)) 3 _ = S14
      have h14 : ∀ p k, ¬ (p = 0 ∧ k = 10) → ¬ p = 23 + cn (S 0 7) → S14 p k = S p k := fun p k h1 h2 => by
        rw [← hS14]
        simp only [us, h2, false_and, if_false]
        exact hS8 p k h1
      have h14n : S14 (23 + cn (S 0 7)) 0 = x := by
        rw [← hS14]
        simp [us]
      have hS16 : ∀ p k, ¬ (p = 0 ∧ (k = 10 ∨ k = 7)) → ¬ p = 3 + cn x → us (p_X1_enterNest S14 (cn x) (S14 0 7)) 0 7 (p_X1_enterNest S14 (cn x) (S14 0 7) 0 7 + 1) p k = S14 p k := fun p k h1 h2 => by
        rw [us_ne _ _ (by omega), fr_enterNest h2]
      have hS167 : us (p_X1_enterNest S14 (cn x) (S14 0 7)) 0 7 (p_X1_enterNest S14 (cn x) (S14 0 7) 0 7 + 1) 0 7 = S 0 7 + 1 := by
        rw [us_at, fr_enterNest (by omega), h14 0 7 (by omega) (by omega)]
      generalize us (p_X1_enterNest S14 (cn x) (S14 0 7)) 0 7 (p_X1_enterNest S14 (cn x) (S14 0 7) 0 7 + 1) = S16 at hS16 hS167 ⊢
      have hR : ∀ p k, ¬ (p = 0 ∧ k = 9) → (if S16 0 7 ≤ S16 0 9 then S16 else us S16 0 9 (S16 0 7)) p k = S16 p k := fun p k hpk => by
        split
        · rfl
        · exact us_ne _ _ hpk
      generalize (if S16 0 7 ≤ S16 0 9 then S16 else us S16 0 9 (S16 0 7)) = R at hR ⊢
      obtain ⟨hc, hB⟩ := bn_inc d hd8 (by decide)
      have e3 : R 0 3 = S 0 3 := by rw [hR 0 3 (by omega), hS16 0 3 (by omega) (by omega), h14 0 3 (by omega) (by omega)]
      have e5 : R 0 5 = S 0 5 := by rw [hR 0 5 (by omega), hS16 0 5 (by omega) (by omega), h14 0 5 (by omega) (by omega)]
      have e7 : R 0 7 = S 0 7 + 1 := by rw [hR 0 7 (by omega), hS167]
      have eo : ∀ p, 15 ≤ p → ¬ p = 23 + cn (S 0 7) → R p 0 = S p 0 := fun p hp h2 => by rw [hR p 0 (by omega), hS16 p 0 (by omega) (by omega), h14 p 0 (by omega) h2]
      have en : R (23 + cn (S 0 7)) 0 = x := by rw [hR _ 0 (by omega), hS16 _ 0 (by omega) (by omega), h14n]
      show Wf R
      refine ⟨by rw [e3]; exact a, by rw [e5]; exact b, by rw [e7]; exact hB, fun q hq => ?_, fun q hq => ?_⟩
      · rw [e5] at hq
        rw [eo _ (by omega) (by omega)]
        exact e q hq
      · rw [e7, hc] at hq
        by_cases hqd : q = cn (S 0 7)
        · rw [hqd, en]
          exact hb
        · rw [eo _ (by omega) (by omega)]
          exact f q (by omega)

def p_X3_passTick (S : Sv) : Int32 × Sv :=
  let S1 : Sv := p_X3_raiseByTimers S
  let x2 : Int32 := (p_X3_beginFoundLine S1).1
  let S3 : Sv := (p_X3_beginFoundLine S1).2
  let S4 : Sv := p_X3_serveTop S3
  let S5 : Sv := p_X3_growWaits S4
  let S6 : Sv := us S5 0 0 ((S5 0 0) + 1)
  ((x2 : Int32), S6)

theorem wf_pass {S : Sv} (h : Wf S) : Wf (p_X3_passTick S).2 := by
  unfold p_X3_passTick
  dsimp only
  exact (wf_grow (wf_serve (wf_begin (wf_raise h)))).same (by simp [us]) (by simp [us]) (by simp [us]) (fun q _ => by simp [us]) (fun q _ => by simp [us])
theorem wB {a b d x : Int32} {n : Nat} (hb : b = nI 1) (hd : d = nI n) (hn : n < 2 ^ 31) (hx : x = p_X6_within a b d) (h : ¬ x = 0) : a = nI (cn a) ∧ cn a ≤ n := by
  subst hx
  unfold p_X6_within at h
  dsimp only at h
  by_cases h1 : a < b
  · rw [if_pos h1] at h
    exact absurd rfl h
  · rw [if_neg h1] at h
    by_cases h2 : d < a
    · rw [if_pos h2] at h
      exact absurd rfl h
    · have h3 : a ≤ d := Int32.not_lt.mp h2
      have h4 : ¬ a < 0 := fun q => h1 (by rw [hb]; exact Int32.lt_trans q (by decide))
      rw [hd] at h3
      obtain ⟨j, hj, hej⟩ := nI_of2 (nI_toInt hn) h4 h3
      have hcn : cn a = j := by rw [hej]; exact nI_clamp (Nat.lt_of_le_of_lt hj hn)
      exact ⟨by rw [hcn]; exact hej, by rw [hcn]; exact hj⟩

def q_X3_passTicks_16 (S : Sv) (tk : Int32) (j : Nat) (σ : Sv) : Sv :=
  let S3 : Sv := σ
  let x5 : Int32 := (p_X3_passTick S3).1
  let S6 : Sv := (p_X3_passTick S3).2
  S6
def p_X3_passTicks (S : Sv) (tk : Int32) : Int32 × Sv :=
  let x1 : Int32 := p_X6_within tk 1 500
  if x1 = 0 then
    (((-2) : Int32), S)
  else
    let S3 : Sv := (itN (q_X3_passTicks_16 S tk) (cn tk) (S))
    ((S3 0 0 : Int32), S3)

theorem wf_it {S : Sv} {tk : Int32} (h : Wf S) : ∀ n, Wf (itN (q_X3_passTicks_16 S tk) n S) := by
  intro n
  induction n with
  | zero => exact h
  | succ n ih =>
    rw [itN_s]
    exact wf_pass ih

def q_X3_ticksUntilBegin_2 (S : Sv) (ln : Int32) (mo : Nat) : Nat → Nat → Sv → Int32 × Sv
  | 0, j, S1 =>
    (((-6) : Int32), S1)
  | fu + 1, j, S1 =>
    let x3 : Int32 := (p_X3_passTick S1).1
    let S4 : Sv := (p_X3_passTick S1).2
    if x3 = ln then
      ((nI j : Int32), S4)
    else
      q_X3_ticksUntilBegin_2 S ln mo fu (j + 1) S4
def p_X3_ticksUntilBegin (S : Sv) (ln : Int32) (mo : Nat) : Int32 × Sv :=
  q_X3_ticksUntilBegin_2 S ln mo mo 0 S

def q_X3_ticksUntilIdle_2 (S : Sv) (mo : Nat) : Nat → Nat → Sv → Int32 × Sv
  | 0, j, S1 =>
    let v5 : Int32 := (if (S1 0 7) = 0 then nI mo else (-6))
    ((v5 : Int32), S1)
  | fu + 1, j, S1 =>
    if (S1 0 7) = 0 then
      ((nI j : Int32), S1)
    else
      let x4 : Int32 := (p_X3_passTick S1).1
      let S5 : Sv := (p_X3_passTick S1).2
      q_X3_ticksUntilIdle_2 S mo fu (j + 1) S5
def p_X3_ticksUntilIdle (S : Sv) (mo : Nat) : Int32 × Sv :=
  q_X3_ticksUntilIdle_2 S mo mo 0 S
end
section
/-! class Server: sums of periods, numbers, a timer stopped, a server copied -/
def q_X3_costOfRivals_5 (S : Sv) (li : Nat) (ww : Int32) (j : Nat) (σ : Int32) : Int32 :=
  let v1 : Int32 := σ
  let v7 : Int32 := (if (S (16 + j) 0) = (nI li) then v1 else (if (S (3 + (cn (S (16 + j) 0))) 0) < (S (3 + li) 0) then v1 else (let x5 : Int64 := p_X6_dividedUp ww.toInt64 ((S (16 + j) 1).toInt64); (let x6 : Int32 := p_X3_costOf S (cn (S (16 + j) 0)); v1 + (x5.toInt32 * x6)))))
  v7
def p_X3_costOfRivals (S : Sv) (li : Nat) (ww : Int32) : Int32 :=
  let v1 : Int32 := (itN (q_X3_costOfRivals_5 S li ww) (cn (S 0 5)) (0))
  (v1 : Int32)

def q_X3_loadOfTimers_7 (S : Sv) (j : Nat) (σ : Int64 × Int64) : Int64 × Int64 :=
  let v1 : Int64 := σ.1
  let v2 : Int64 := σ.2
  let x4 : Int32 := p_X3_costOf S (cn (S (16 + j) 0))
  (v1 * ((S (16 + j) 1).toInt64), (v2 * ((S (16 + j) 1).toInt64)) + (v1 * x4.toInt64))
def p_X3_loadOfTimers (S : Sv) : Int32 :=
  let v1 : Int64 := (itN (q_X3_loadOfTimers_7 S) (cn (S 0 5)) (1, 0)).1
  let v2 : Int64 := (itN (q_X3_loadOfTimers_7 S) (cn (S 0 5)) (1, 0)).2
  let x5 : Int64 := p_X6_dividedUp (1000 * v2) v1
  (x5.toInt32 : Int32)

def q_X3_leastBound_32 (S : Sv) (ln : Int32) (x3 : Int32) (x4 : Int32) : Nat → Nat → Int32
  | 0, j =>
    ((-6) : Int32)
  | fu + 1, j =>
    let x6 : Int32 := p_X3_costOfRivals S (cn ln) (nI j)
    if (nI j) = ((x3 + x4) + x6) then
      (nI j : Int32)
    else
      q_X3_leastBound_32 S ln x3 x4 fu (j + 1) 
def p_X3_leastBound (S : Sv) (ln : Int32) : Int32 :=
  let x1 : Int32 := p_X3_hasLine S ln
  if x1 = 0 then
    ((-1) : Int32)
  else
    let x3 : Int32 := p_X3_greatestCostBelow S (S (3 + (cn ln)) 0)
    let x4 : Int32 := p_X3_costOf S (cn ln)
    q_X3_leastBound_32 S ln x3 x4 3000 1 

def p_X3_numberOfAll (S : Sv) (wh : Int32) : Int32 :=
  if wh < 12 then
    if wh = 0 then
      (S 0 0 : Int32)
    else
      if wh = 1 then
        (S 0 3 : Int32)
      else
        if wh = 2 then
          (S 0 5 : Int32)
        else
          if wh = 3 then
            (S 0 7 : Int32)
          else
            if wh = 4 then
              let x2 : Int32 := p_X3_waitingLines S
              (x2 : Int32)
            else
              if wh = 5 then
                let x3 : Int32 := p_X3_foundLine S
                (x3 : Int32)
              else
                if wh = 6 then
                  (S 0 8 : Int32)
                else
                  if wh = 7 then
                    (S 0 9 : Int32)
                  else
                    if wh = 8 then
                      let x4 : Int32 := p_X3_missesOfAll S
                      (x4 : Int32)
                    else
                      if wh = 9 then
                        (S 0 10 : Int32)
                      else
                        ((-2) : Int32)
  else
    if 7 ≤ (wh - 12) then
      if wh = 0 then
        (S 0 0 : Int32)
      else
        if wh = 1 then
          (S 0 3 : Int32)
        else
          if wh = 2 then
            (S 0 5 : Int32)
          else
            if wh = 3 then
              (S 0 7 : Int32)
            else
              if wh = 4 then
                let x6 : Int32 := p_X3_waitingLines S
                (x6 : Int32)
              else
                if wh = 5 then
                  let x7 : Int32 := p_X3_foundLine S
                  (x7 : Int32)
                else
                  if wh = 6 then
                    (S 0 8 : Int32)
                  else
                    if wh = 7 then
                      (S 0 9 : Int32)
                    else
                      if wh = 8 then
                        let x8 : Int32 := p_X3_missesOfAll S
                        (x8 : Int32)
                      else
                        if wh = 9 then
                          (S 0 10 : Int32)
                        else
                          ((-2) : Int32)
    else
      (S 1 (cn (wh - 12)) : Int32)

def q_X3_removeTimer_12 (S : Sv) (tm : Int32) (j : Nat) (σ : Sv) : Sv :=
  let S3 : Sv := σ
  let S5 : Sv := p_X5_copyFromS S3 (cn tm + j) (cn tm + j + 1)
  S5
def p_X3_removeTimer (S : Sv) (tm : Int32) : Int32 × Sv :=
  let x1 : Int32 := p_X3_hasTimer S tm
  if x1 = 0 then
    (((-1) : Int32), S)
  else
    let S3 : Sv := (itN (q_X3_removeTimer_12 S tm) (cn (S 0 5) - 1 - cn tm) (S))
    let S6 : Sv := us S3 0 5 ((S3 0 5) - 1)
    ((S6 0 5 : Int32), S6)

theorem fr_copyS {S : Sv} {i k2 p k : Nat} (h : ¬ p = 16 + i) : p_X5_copyFromS S i k2 p k = S p k := by simp [p_X5_copyFromS, us, h]
theorem rm_keep {S : Sv} {tm : Int32} : ∀ n p k, (p < 16) → itN (q_X3_removeTimer_12 S tm) n S p k = S p k := by
  intro n
  induction n with
  | zero => intro p k _; rfl
  | succ n ih =>
    intro p k hp
    rw [itN_s]
    unfold q_X3_removeTimer_12
    dsimp only
    rw [fr_copyS (by omega)]
    exact ih p k hp

def q_X3_copyFrom_36 (S : Sv) (T : Sv) (j : Nat) (σ : Sv) : Sv :=
  let S4 : Sv := σ
  let S6 : Sv := p_X1_copyFromO S4 j T
  S6
def q_X3_copyFrom_75 (S : Sv) (T : Sv) (j : Nat) (σ : Sv) : Sv :=
  let S8 : Sv := σ
  let S10 : Sv := p_X5_copyFromO S8 j T
  S10
def q_X3_copyFrom_114 (S : Sv) (T : Sv) (j : Nat) (σ : Sv) : Sv :=
  let S12 : Sv := σ
  let S14 : Sv := p_X4_copyFromO S12 j T
  S14
def p_X3_copyFrom (S : Sv) (T : Sv) : Sv :=
  let S1 : Sv := us S 0 0 (T 0 0)
  let S2 : Sv := cpS S1 T
  let S3 : Sv := us S2 0 3 (T 0 3)
  let S4 : Sv := (itN (q_X3_copyFrom_36 S T) (cn (T 0 3)) (S3))
  let S7 : Sv := us S4 0 5 (T 0 5)
  let S8 : Sv := (itN (q_X3_copyFrom_75 S T) (cn (T 0 5)) (S7))
  let S11 : Sv := us S8 0 7 (T 0 7)
  let S12 : Sv := (itN (q_X3_copyFrom_114 S T) (cn (T 0 7)) (S11))
  let S15 : Sv := us S12 0 8 (T 0 8)
  let S16 : Sv := us S15 0 9 (T 0 9)
  let S17 : Sv := us S16 0 10 (T 0 10)
  S17

theorem fr_copyO1 {S T : Sv} {i p k : Nat} (h : ¬ p = 3 + i) : p_X1_copyFromO S i T p k = S p k := by simp [p_X1_copyFromO, us, h]
theorem fr_copyO5 {S T : Sv} {i p k : Nat} (h : ¬ p = 16 + i) : p_X5_copyFromO S i T p k = S p k := by simp [p_X5_copyFromO, us, h]
theorem fr_copyO4 {S T : Sv} {i p k : Nat} (h : ¬ p = 23 + i) : p_X4_copyFromO S i T p k = S p k := by simp [p_X4_copyFromO, us, h]
theorem cp36_keep {S T S0 : Sv} : ∀ n, n ≤ 12 → ∀ p k, ¬ (3 ≤ p ∧ p < 15) → itN (q_X3_copyFrom_36 S T) n S0 p k = S0 p k := by
  intro n
  induction n with
  | zero => intro _ p k _; rfl
  | succ n ih =>
    intro hn p k hp
    rw [itN_s]
    unfold q_X3_copyFrom_36
    dsimp only
    rw [fr_copyO1 (by omega)]
    exact ih (by omega) p k hp
theorem cp75_keep {S T S0 : Sv} : ∀ n, n ≤ 6 → ∀ p k, ¬ (16 ≤ p ∧ p < 22) → itN (q_X3_copyFrom_75 S T) n S0 p k = S0 p k := by
  intro n
  induction n with
  | zero => intro _ p k _; rfl
  | succ n ih =>
    intro hn p k hp
    rw [itN_s]
    unfold q_X3_copyFrom_75
    dsimp only
    rw [fr_copyO5 (by omega)]
    exact ih (by omega) p k hp
theorem cp114_keep {S T S0 : Sv} : ∀ n, n ≤ 8 → ∀ p k, ¬ (23 ≤ p ∧ p < 31) → itN (q_X3_copyFrom_114 S T) n S0 p k = S0 p k := by
  intro n
  induction n with
  | zero => intro _ p k _; rfl
  | succ n ih =>
    intro hn p k hp
    rw [itN_s]
    unfold q_X3_copyFrom_114
    dsimp only
    rw [fr_copyO4 (by omega)]
    exact ih (by omega) p k hp
end
section
/-! a server copied: which cells are the other's -/

theorem cv1_at {S T : Sv} {i : Nat} : ∀ k, k < 16 → p_X1_copyFromO S i T (3 + i) k = T (3 + i) k
  | 0, _ => by simp [p_X1_copyFromO, us]
  | 1, _ => by simp [p_X1_copyFromO, us]
  | 2, _ => by simp [p_X1_copyFromO, us]
  | 3, _ => by simp [p_X1_copyFromO, us]
  | 4, _ => by simp [p_X1_copyFromO, us]
  | 5, _ => by simp [p_X1_copyFromO, us]
  | 6, _ => by simp [p_X1_copyFromO, us]
  | 7, _ => by simp [p_X1_copyFromO, us]
  | 8, _ => by simp [p_X1_copyFromO, us]
  | 9, _ => by simp [p_X1_copyFromO, us]
  | 10, _ => by simp [p_X1_copyFromO, us]
  | 11, _ => by simp [p_X1_copyFromO, us]
  | 12, _ => by simp [p_X1_copyFromO, us]
  | 13, _ => by simp [p_X1_copyFromO, us]
  | 14, _ => by simp [p_X1_copyFromO, us]
  | 15, _ => by simp [p_X1_copyFromO, us]
  | n + 16, h => absurd h (by omega)
theorem cv1_val {S T S0 : Sv} : ∀ n, n ≤ 12 → ∀ i, i < n → ∀ k, k < 16 → itN (q_X3_copyFrom_36 S T) n S0 (3 + i) k = T (3 + i) k := by
  intro n
  induction n with
  | zero => intro _ i hi; omega
  | succ n ih =>
    intro hn i hi k hk
    rw [itN_s]
    show p_X1_copyFromO (itN (q_X3_copyFrom_36 S T) n S0) n T (3 + i) k = T (3 + i) k
    by_cases hin : i = n
    · rw [hin]
      exact cv1_at k hk
    · rw [fr_copyO1 (by omega)]
      exact ih (by omega) i (by omega) k hk
theorem cv1_out {S T S0 : Sv} : ∀ n, n ≤ 12 → ∀ p k, ¬ (3 ≤ p ∧ p < 3 + n) → itN (q_X3_copyFrom_36 S T) n S0 p k = S0 p k := by
  intro n
  induction n with
  | zero => intro _ p k _; rfl
  | succ n ih =>
    intro hn p k hp
    rw [itN_s]
    show p_X1_copyFromO (itN (q_X3_copyFrom_36 S T) n S0) n T p k = S0 p k
    rw [fr_copyO1 (by omega)]
    exact ih (by omega) p k (by omega)

theorem cv5_at {S T : Sv} {i : Nat} : ∀ k, k < 3 → p_X5_copyFromO S i T (16 + i) k = T (16 + i) k
  | 0, _ => by simp [p_X5_copyFromO, us]
  | 1, _ => by simp [p_X5_copyFromO, us]
  | 2, _ => by simp [p_X5_copyFromO, us]
  | n + 3, h => absurd h (by omega)
theorem cv5_val {S T S0 : Sv} : ∀ n, n ≤ 6 → ∀ i, i < n → ∀ k, k < 3 → itN (q_X3_copyFrom_75 S T) n S0 (16 + i) k = T (16 + i) k := by
  intro n
  induction n with
  | zero => intro _ i hi; omega
  | succ n ih =>
    intro hn i hi k hk
    rw [itN_s]
    show p_X5_copyFromO (itN (q_X3_copyFrom_75 S T) n S0) n T (16 + i) k = T (16 + i) k
    by_cases hin : i = n
    · rw [hin]
      exact cv5_at k hk
    · rw [fr_copyO5 (by omega)]
      exact ih (by omega) i (by omega) k hk
theorem cv5_out {S T S0 : Sv} : ∀ n, n ≤ 6 → ∀ p k, ¬ (16 ≤ p ∧ p < 16 + n) → itN (q_X3_copyFrom_75 S T) n S0 p k = S0 p k := by
  intro n
  induction n with
  | zero => intro _ p k _; rfl
  | succ n ih =>
    intro hn p k hp
    rw [itN_s]
    show p_X5_copyFromO (itN (q_X3_copyFrom_75 S T) n S0) n T p k = S0 p k
    rw [fr_copyO5 (by omega)]
    exact ih (by omega) p k (by omega)

theorem cv4_at {S T : Sv} {i : Nat} : ∀ k, k < 4 → p_X4_copyFromO S i T (23 + i) k = T (23 + i) k
  | 0, _ => by simp [p_X4_copyFromO, us]
  | 1, _ => by simp [p_X4_copyFromO, us]
  | 2, _ => by simp [p_X4_copyFromO, us]
  | 3, _ => by simp [p_X4_copyFromO, us]
  | n + 4, h => absurd h (by omega)
theorem cv4_val {S T S0 : Sv} : ∀ n, n ≤ 8 → ∀ i, i < n → ∀ k, k < 4 → itN (q_X3_copyFrom_114 S T) n S0 (23 + i) k = T (23 + i) k := by
  intro n
  induction n with
  | zero => intro _ i hi; omega
  | succ n ih =>
    intro hn i hi k hk
    rw [itN_s]
    show p_X4_copyFromO (itN (q_X3_copyFrom_114 S T) n S0) n T (23 + i) k = T (23 + i) k
    by_cases hin : i = n
    · rw [hin]
      exact cv4_at k hk
    · rw [fr_copyO4 (by omega)]
      exact ih (by omega) i (by omega) k hk
theorem cv4_out {S T S0 : Sv} : ∀ n, n ≤ 8 → ∀ p k, ¬ (23 ≤ p ∧ p < 23 + n) → itN (q_X3_copyFrom_114 S T) n S0 p k = S0 p k := by
  intro n
  induction n with
  | zero => intro _ p k _; rfl
  | succ n ih =>
    intro hn p k hp
    rw [itN_s]
    show p_X4_copyFromO (itN (q_X3_copyFrom_114 S T) n S0) n T p k = S0 p k
    rw [fr_copyO4 (by omega)]
    exact ih (by omega) p k (by omega)

/-- the cells that a copy takes over -/
def InC (T : Sv) (p k : Nat) : Prop := (p = 0 ∧ (k = 0 ∨ k = 3 ∨ k = 5 ∨ k = 7 ∨ k = 8 ∨ k = 9 ∨ k = 10)) ∨ (p = 1 ∧ k < 7) ∨ (3 ≤ p ∧ p < 3 + cn (T 0 3) ∧ k < 16) ∨ (16 ≤ p ∧ p < 16 + cn (T 0 5) ∧ k < 3) ∨ (23 ≤ p ∧ p < 23 + cn (T 0 7) ∧ k < 4)
/-- the cells that a copy may touch -/
def ToC (T : Sv) (p k : Nat) : Prop := (p = 0 ∧ (k = 0 ∨ k = 3 ∨ k = 5 ∨ k = 7 ∨ k = 8 ∨ k = 9 ∨ k = 10)) ∨ p = 1 ∨ (3 ≤ p ∧ p < 3 + cn (T 0 3)) ∨ (16 ≤ p ∧ p < 16 + cn (T 0 5)) ∨ (23 ≤ p ∧ p < 23 + cn (T 0 7))
theorem copy_out {S T : Sv} (hn : cn (T 0 3) ≤ 12) (ht : cn (T 0 5) ≤ 6) (hd : cn (T 0 7) ≤ 8) {p k : Nat} (h : ¬ ToC T p k) : p_X3_copyFrom S T p k = S p k := by
  unfold ToC at h
  unfold p_X3_copyFrom
  rw [us_ne _ _ (by omega), us_ne _ _ (by omega), us_ne _ _ (by omega), cv4_out _ hd p k (by omega), us_ne _ _ (by omega), cv5_out _ ht p k (by omega), us_ne _ _ (by omega), cv1_out _ hn p k (by omega), us_ne _ _ (by omega)]
  unfold cpS
  rw [if_neg (by omega), us_ne _ _ (by omega)]
theorem copy_in {S T : Sv} (hn : cn (T 0 3) ≤ 12) (ht : cn (T 0 5) ≤ 6) (hd : cn (T 0 7) ≤ 8) {p k : Nat} (h : InC T p k) : p_X3_copyFrom S T p k = T p k := by
  unfold p_X3_copyFrom
  rcases h with ⟨rfl, h⟩ | ⟨rfl, h⟩ | ⟨h1, h2, h3⟩ | ⟨h1, h2, h3⟩ | ⟨h1, h2, h3⟩
  · rcases h with rfl | rfl | rfl | rfl | rfl | rfl | rfl
    · rw [us_ne _ _ (by omega), us_ne _ _ (by omega), us_ne _ _ (by omega), cv4_out _ hd _ _ (by omega), us_ne _ _ (by omega), cv5_out _ ht _ _ (by omega), us_ne _ _ (by omega), cv1_out _ hn _ _ (by omega), us_ne _ _ (by omega)]
      unfold cpS
      rw [if_neg (by omega), us_at]
    · rw [us_ne _ _ (by omega), us_ne _ _ (by omega), us_ne _ _ (by omega), cv4_out _ hd _ _ (by omega), us_ne _ _ (by omega), cv5_out _ ht _ _ (by omega), us_ne _ _ (by omega), cv1_out _ hn _ _ (by omega), us_at]
    · rw [us_ne _ _ (by omega), us_ne _ _ (by omega), us_ne _ _ (by omega), cv4_out _ hd _ _ (by omega), us_ne _ _ (by omega), cv5_out _ ht _ _ (by omega), us_at]
    · rw [us_ne _ _ (by omega), us_ne _ _ (by omega), us_ne _ _ (by omega), cv4_out _ hd _ _ (by omega), us_at]
    · rw [us_ne _ _ (by omega), us_ne _ _ (by omega), us_at]
    · rw [us_ne _ _ (by omega), us_at]
    · rw [us_at]
  · rw [us_ne _ _ (by omega), us_ne _ _ (by omega), us_ne _ _ (by omega), cv4_out _ hd _ _ (by omega), us_ne _ _ (by omega), cv5_out _ ht _ _ (by omega), us_ne _ _ (by omega), cv1_out _ hn _ _ (by omega), us_ne _ _ (by omega)]
    unfold cpS
    rw [if_pos ⟨rfl, h⟩]
  · obtain ⟨i, rfl⟩ : ∃ i, p = 3 + i := ⟨p - 3, by omega⟩
    rw [us_ne _ _ (by omega), us_ne _ _ (by omega), us_ne _ _ (by omega), cv4_out _ hd _ _ (by omega), us_ne _ _ (by omega), cv5_out _ ht _ _ (by omega), us_ne _ _ (by omega)]
    exact cv1_val _ hn i (by omega) k h3
  · obtain ⟨i, rfl⟩ : ∃ i, p = 16 + i := ⟨p - 16, by omega⟩
    rw [us_ne _ _ (by omega), us_ne _ _ (by omega), us_ne _ _ (by omega), cv4_out _ hd _ _ (by omega), us_ne _ _ (by omega)]
    exact cv5_val _ ht i (by omega) k h3
  · obtain ⟨i, rfl⟩ : ∃ i, p = 23 + i := ⟨p - 23, by omega⟩
    rw [us_ne _ _ (by omega), us_ne _ _ (by omega), us_ne _ _ (by omega)]
    exact cv4_val _ hd i (by omega) k h3
/-- a server that may be copied and may pass ticks -/
def Ws (S : Sv) : Prop := Wf S ∧ ∀ i, i < 12 → (S (3 + i) 3 = 0 ∨ S (3 + i) 3 = 1) ∧ (S (3 + i) 4 = 0 ∨ S (3 + i) 4 = 1) ∧ (S (3 + i) 5 = 0 ∨ S (3 + i) 5 = 1)
theorem wf_copy {S T : Sv} (h : Wf T) : Wf (p_X3_copyFrom S T) := by
  obtain ⟨a, b, c, d, e⟩ := id h
  have k := fun p k (hi : InC T p k) => copy_in (S := S) a.2 b.2 c.2 hi
  refine ⟨by rw [k 0 3 (Or.inl ⟨rfl, by omega⟩)]; exact a, by rw [k 0 5 (Or.inl ⟨rfl, by omega⟩)]; exact b, by rw [k 0 7 (Or.inl ⟨rfl, by omega⟩)]; exact c, fun q hq => ?_, fun q hq => ?_⟩
  · rw [k 0 5 (Or.inl ⟨rfl, by omega⟩)] at hq
    rw [k (16 + q) 0 (Or.inr (Or.inr (Or.inr (Or.inl ⟨by omega, by omega, by omega⟩))))]
    exact d q hq
  · rw [k 0 7 (Or.inl ⟨rfl, by omega⟩)] at hq
    rw [k (23 + q) 0 (Or.inr (Or.inr (Or.inr (Or.inr ⟨by omega, by omega, by omega⟩))))]
    exact e q hq
theorem ws_copy {S T : Sv} (hS : Ws S) (h : Ws T) : Ws (p_X3_copyFrom S T) := by
  refine ⟨wf_copy h.1, fun i hi => ?_⟩
  obtain ⟨a, b, c, _, _⟩ := h.1
  have c2 := c.2
  have b2 := b.2
  by_cases hin : i < cn (T 0 3)
  · have k := fun k (hk : k < 16) => copy_in (S := S) (p := 3 + i) (k := k) a.2 b.2 c.2 (Or.inr (Or.inr (Or.inl ⟨by omega, by omega, hk⟩)))
    rw [k 3 (by decide), k 4 (by decide), k 5 (by decide)]
    exact h.2 i hi
  · have k := fun k => copy_out (S := S) (p := 3 + i) (k := k) a.2 b.2 c.2 (by unfold ToC; omega)
    rw [k 3, k 4, k 5]
    exact hS.2 i hi
end
section
/-! class History -/

def p_X0_recordUnlessError (S : Sv) (an : Int32) : Int32 × Sv :=
  let S10 : Sv := (if an < 0 then S else (let v3 : Int32 := (if 7 ≤ ((S 3 1) + 1) then 0 else (S 3 1) + 1); (let S5 : Sv := us S 3 1 v3; (let v7 : Int32 := (if 6 ≤ (S5 3 2) then 6 else (S5 3 2) + 1); (let S9 : Sv := us S5 3 2 v7; S9)))))
  ((an : Int32), S10)
end
section
theorem wf_ticks {S : Sv} {tk : Int32} (h : Wf S) : Wf (p_X3_passTicks S tk).2 := by
  unfold p_X3_passTicks
  dsimp only
  split
  · exact h
  · exact wf_it h _
end
section
/-! class InterruptInn: saving, forecasts -/
theorem wf_set {S : Sv} {a b : Int32} (h : Wf S) : Wf (p_X3_changeSetting S a b).2 := by
  unfold p_X3_changeSetting
  dsimp only
  repeat' split
  all_goals dsimp only
  all_goals first | exact h | exact h.same (us_ne _ _ (by omega)) (us_ne _ _ (by omega)) (us_ne _ _ (by omega)) (fun q _ => us_ne _ _ (by omega)) (fun q _ => us_ne _ _ (by omega))
end
section
/-! class InterruptInn: a text is carried out -/

theorem wf_line {S S' : Sv} {i : Nat} (h : Wf S) (hi : i < 12) (hk : ∀ p k, ¬ p = 3 + i → S' p k = S p k) : Wf S' := h.same (hk _ _ (by omega)) (hk _ _ (by omega)) (hk _ _ (by omega)) (fun q _ => hk _ _ (by omega)) (fun q _ => hk _ _ (by omega))
theorem hasL {S : Sv} {ln : Int32} (h : Wf S) (h1 : ¬ p_X3_hasLine S ln = 0) : cn ln < 12 := by
  have := (wL (a := ln) h.1 (by decide) (x := p_X6_within ln 0 (S 0 3 - 1)) rfl h1).2
  have h2 := h.1.2
  omega
theorem wf_raiseL {S : Sv} {ln : Int32} (h : Wf S) : Wf (p_X3_raiseLine S ln).2 := by
  unfold p_X3_raiseLine
  dsimp only
  split
  · exact h
  · next h1 =>
    split
    · exact wf_line h (hasL h h1) fun p k hp => fr_takeEdge hp
    · exact h
theorem wf_holdL {S : Sv} {ln dv up : Int32} (h : Wf S) : Wf (p_X3_holdLine S ln dv up).2 := by
  unfold p_X3_holdLine
  dsimp only
  split
  · exact h
  · next h1 =>
    split
    · exact h
    · split
      · exact h
      · split
        · exact h
        · exact wf_line h (hasL h h1) fun p k hp => fr_moveDevice hp
theorem wf_maskL {S : Sv} {ln i : Int32} (h : Wf S) : Wf (p_X3_maskLine S ln i).2 := by
  unfold p_X3_maskLine
  dsimp only
  split
  · exact h
  · next h1 =>
    split
    · exact h
    · exact wf_line h (hasL h h1) fun p k hp => us_ne _ _ (by omega)
theorem st_s {v : Int32} {j : Nat} (h : Bn v 81 ∧ cn v ≤ j) : Bn v 81 ∧ cn v ≤ j + 1 := ⟨h.1, Nat.le_succ_of_le h.2⟩
theorem st_e {j : Nat} (h : j < 81) : Bn (nI j + 1) 81 ∧ cn (nI j + 1) ≤ j + 1 := by
  have e : nI j + 1 = nI (j + 1) := ia rfl (lI 1)
  have e2 : cn (nI (j + 1)) = j + 1 := nI_clamp (by omega)
  rw [e, e2]
  exact ⟨bnI (by omega) (by omega), Nat.le_refl _⟩
end
section
/-! cells that are being laid: L tells which are there, V what their slots hold -/
abbrev Vs : Type := Nat → Nat → Nat → Value
def cellV (E : mE) (f : Nat → Value) (H : Heap) (r p : Nat) : Prop :=
  if (kd r p).1 < 10 then ∃ q : vw_C, kcl[(kd r p).1]? = some q ∧ t_OB (ea E r p) (E.1.1 (kd r p).1) q.2.2 (E.1.2 (kd r p).1) H f
  else arA r (H[ea E r p]?) (E.2.1 ((kd r p).1 - 10)) (kd r p).2 f
def vs (V : Vs) (r p : Nat) (f : Nat → Value) : Vs := fun r' p' => if r' = r ∧ p' = p then f else V r' p'
def PB (E : mE) (V : Vs) (L : Nat → Nat → Prop) (H : Heap) : Prop := ∀ r p, L r p → live E r p ∧ cellV E (V r p) H r p
def BW (E : mE) (s : State) (H : Heap) (locs : List Loc) (V : Vs) (L : Nat → Nat → Prop) (n : Nat) : Prop := PB E V L H ∧ va_S (AA E) s.heap H locs ∧ H.size = n
theorem vs_at (V : Vs) (r p : Nat) (f : Nat → Value) : vs V r p f r p = f := if_pos ⟨rfl, rfl⟩
theorem vs_ne (V : Vs) {r p r' p' : Nat} (f : Nat → Value) (h : ¬ (r' = r ∧ p' = p)) : vs V r p f r' p' = V r' p' := if_neg h
theorem PB.to {E : mE} {V V' : Vs} {L L' : Nat → Nat → Prop} {H : Heap} (h : PB E V L H) (hL : ∀ r p, L' r p → L r p ∧ V' r p = V r p) : PB E V' L' H := by
  intro r p hl
  obtain ⟨h1, h2⟩ := hL r p hl
  rw [h2]
  exact h r p h1
theorem cellV.kept {E : mE} {f : Nat → Value} {H H1 : Heap} {r p : Nat} (h : cellV E f H r p) (hq : H1[ea E r p]? = H[ea E r p]?) : cellV E f H1 r p := by
  unfold cellV at h ⊢
  split
  · next h2 =>
    rw [if_pos h2] at h
    obtain ⟨q, g1, g2⟩ := h
    exact ⟨q, g1, g2.kept hq⟩
  · next h2 =>
    rw [if_neg h2] at h
    rw [hq]
    exact h
theorem cellV.lt {E : mE} {f : Nat → Value} {H : Heap} {r p : Nat} (h : cellV E f H r p) : ea E r p < H.size := by
  unfold cellV at h
  split at h
  · obtain ⟨q, g1, cell, g2, -⟩ := h
    exact (Array.getElem?_eq_some_iff.mp g2).1
  · obtain ⟨cell, g2, -⟩ := h.ex
    exact (Array.getElem?_eq_some_iff.mp g2).1
theorem PB.push {E : mE} {V : Vs} {L : Nat → Nat → Prop} {H H1 : Heap} {r p : Nat} {f : Nat → Value} (h : PB E V L H) (hl : live E r p) (hc : cellV E f H1 r p) (o1 : ∀ q, q < H.size → H1[q]? = H[q]?) : PB E (vs V r p f) (fun r' p' => L r' p' ∨ (r' = r ∧ p' = p)) H1 := by
  intro r' p' hL
  by_cases he : r' = r ∧ p' = p
  · obtain ⟨rfl, rfl⟩ := he
    rw [vs_at]
    exact ⟨hl, hc⟩
  · obtain ⟨h1, h2⟩ := h r' p' (hL.resolve_right he)
    rw [vs_ne _ _ he]
    exact ⟨h1, h2.kept (o1 _ h2.lt)⟩
theorem PB.upd {E : mE} {V : Vs} {L : Nat → Nat → Prop} {H H1 : Heap} {r p : Nat} {f : Nat → Value} (h : PB E V L H) (hI : Inj E) (hl : L r p) (hc : cellV E f H1 r p) (oq : ∀ q : Nat, q ≠ ea E r p → H1[q]? = H[q]?) : PB E (vs V r p f) L H1 := by
  intro r' p' hL
  by_cases he : r' = r ∧ p' = p
  · obtain ⟨rfl, rfl⟩ := he
    rw [vs_at]
    exact ⟨(h _ _ hl).1, hc⟩
  · obtain ⟨h1, h2⟩ := h r' p' hL
    rw [vs_ne _ _ he]
    exact ⟨h1, h2.kept (oq _ fun e => he (hI _ _ _ _ h1 (h _ _ hl).1 e))⟩
theorem nI_nneg {n : Nat} (h : n < 2 ^ 31) : ¬ nI n < 0 := Int32.not_lt.mpr ((nI_leI (a := 0) (by decide) h).mpr (Nat.zero_le _))
section ROWSB
variable {p : Program} {l : Launch} {e : Env} {R : Room} {s : State} {m : MethodId} {args : Array Value} {below : List Frame} {meth : Method} {c : Code} {H : Heap} {locs : List Loc} {cells slots : Nat} {Q : State → Prop}
variable {cc : ByteArray} {nL pc : Nat} {ls : Array Slot} {rest : List Value} {own : String} {E : mE} {V : Vs} {L : Nat → Nat → Prop} {n : Nat}
theorem bS {A : Nat → Prop} {H0 H H1 : Heap} {locs : List Loc} (h : va_S A H0 H locs) (z1 : H1.size = H.size + 1) (o1 : ∀ q, q < H.size → H1[q]? = H[q]?) : va_S A H0 H1 locs :=
  ⟨Nat.le_trans h.1 (by omega), fun x h1 h2 => (o1 x (Nat.lt_of_lt_of_le h1 h.1)).trans (h.2.1 x h1 h2), h.2.2⟩
/-- an object is laid: its slots hold their first values -/
theorem bnew (F : CallFix p m c cc nL s args TB own) (hT : Stat E s) (hB : BW E s H locs V L n) {index r q ci N : Nat} {C : String} {T : u_T} {ty : Nat → FieldType} (hc : kcl[ci]? = some (C, T, N)) (hty : ∀ k, k < N → parseFieldDescriptor (T k).2.2.1 = some (ty k)) (hin : ∀ w ∈ u_ws C T N, w ∈ TB)
    (h1 : Cond.classLink own index C ∈ TB) (h2 : Cond.instantiable C N ∈ TB) (h3 : Cond.initialized C ∈ TB) (hea : ea E r q = n) (hl : live E r q) (hk : kd r q = (ci, N)) (hci : ci < 10) (hcells : cells + 1 ≤ R.cells) (hslots : slots + N ≤ R.slots) (hdg : decode cc pc = .ok (.new index, 3))
    (kk : ∀ H1 : Heap, BW E s H1 locs (vs V r q (fun k => defaultValue (ty k))) (fun r' p' => L r' p' ∨ (r' = r ∧ p' = q)) (n + 1) → W p l e R s m args below meth c H1 locs (cells + 1) (slots + N) Q (F0 m (pc + 3) ls (.ref (ea E r q) :: rest))) : W p l e R s m args below meth c H locs cells slots Q (F0 m pc ls rest) := by
  have hts := F.2.2.2.2
  have hKn := hT.K.1 ci _ hc
  obtain ⟨b1, b2, b3⟩ := hB
  refine W.newcK F.1 F.2.1 F.2.2.2.1 (hts _ h1) (hts _ h2) (hts _ h3) rfl hdg hcells hslots hKn.2.1 (b3.trans hea.symm) fun H1 kC hkC e1 z1 o1 => ?_
  rw [hea] at z1 o1
  refine kk H1 ⟨b1.push hl ?_ (fun x hx => o1 x (by omega)), bS b2 (by omega) (fun x hx => o1 x (by omega)), z1⟩
  unfold cellV
  rw [hk, if_pos hci]
  exact ⟨_, hc, u_born ty hts hin hKn hkC e1 hty⟩
/-- an array of numbers is laid -/
theorem bnewi (F : CallFix p m c cc nL s args TB own) (hT : Stat E s) (hB : BW E s H locs V L n) {r q t N : Nat} {atype : ArrayType} {x : Int32} (hty : (tyL E)[t]? = some (E.2.1 t, newarray.typeOf atype)) (ho : ∀ C, newarray.typeOf atype ≠ .object C) (h1 : Cond.arrayClass (newarray.typeOf atype) ∈ TB) (hx : x = nI N) (hN : N < 2 ^ 31) (hby : N * componentBytes (newarray.typeOf atype) ≤ 536870912)
    (hea : ea E r q = n) (hl : live E r q) (hk : kd r q = (10 + t, N)) (hcells : cells + 1 ≤ R.cells) (hslots : slots + N ≤ R.slots) (hdg : decode cc pc = .ok (.newarray atype, 2))
    (kk : ∀ H1 : Heap, BW E s H1 locs (vs V r q (fun _ => defaultValue (newarray.typeOf atype))) (fun r' p' => L r' p' ∨ (r' = r ∧ p' = q)) (n + 1) → W p l e R s m args below meth c H1 locs (cells + 1) (slots + N) Q (F0 m (pc + 2) ls (.ref (ea E r q) :: rest))) : W p l e R s m args below meth c H locs cells slots Q (F0 m pc ls (.int x :: rest)) := by
  have hts := F.2.2.2.2
  obtain ⟨b1, b2, b3⟩ := hB
  subst hx
  refine va_newaK F.1 F.2.1 (hts _ h1) rfl hdg rfl (nI_nneg hN) (nI_clamp hN) hby hcells hslots (b3.trans hea.symm) fun H1 cA e1 z1 o1 hAr hNm => ?_
  have hcA : cA = E.2.1 t := by
    have hk2 := (hT.K.2 t _ hty).2
    unfold va_RA at hk2
    generalize newarray.typeOf atype = ty at hk2 hNm ho
    cases ty with
    | object C => exact absurd rfl (ho C)
    | _ => exact Option.some.inj (hNm.symm.trans hk2)
  rw [hea] at z1 o1
  refine kk H1 ⟨b1.push hl ?_ (fun x hx => o1 x (by omega)), bS b2 (by omega) (fun x hx => o1 x (by omega)), z1⟩
  unfold cellV
  rw [hk, if_neg (by show ¬ 10 + t < 10; omega), show ((10 + t, N) : Nat × Nat).1 - 10 = t by show 10 + t - 10 = t; omega, ← hcA]
  exact arA.of e1
/-- an array of references is laid -/
theorem bnewq (F : CallFix p m c cc nL s args TB own) (hT : Stat E s) (hB : BW E s H locs V L n) {index r q t N : Nat} {C : String} {x : Int32} (hty : (tyL E)[t]? = some (E.2.1 t, .object C)) (h1 : Cond.classLink own index C ∈ TB) (h2 : va_AO C s) (hx : x = nI N) (hN : N < 2 ^ 31) (hby : N * 4 ≤ 536870912)
    (hea : ea E r q = n) (hl : live E r q) (hk : kd r q = (10 + t, N)) (hcells : cells + 1 ≤ R.cells) (hslots : slots + N ≤ R.slots) (hdg : decode cc pc = .ok (.anewarray index, 3))
    (kk : ∀ H1 : Heap, BW E s H1 locs (vs V r q (fun _ => .null)) (fun r' p' => L r' p' ∨ (r' = r ∧ p' = q)) (n + 1) → W p l e R s m args below meth c H1 locs (cells + 1) (slots + N) Q (F0 m (pc + 3) ls (.ref (ea E r q) :: rest))) : W p l e R s m args below meth c H locs cells slots Q (F0 m pc ls (.int x :: rest)) := by
  have hts := F.2.2.2.2
  obtain ⟨b1, b2, b3⟩ := hB
  subst hx
  have hcl : (nI N).toNatClampNeg = N := nI_clamp hN
  refine W.anew F.1 F.2.1 F.2.2.2.1 (hts _ h1) (va_AO.use h2) rfl hdg rfl (nI_nneg hN) (by rw [hcl]; exact hby) hcells (by rw [hcl]; exact hslots) fun cA kA comp f1 f2 f3 f4 => ?_
  obtain ⟨kA', comp', -, -, -, k4⟩ := (hT.K.2 t _ hty).2
  have hcA : cA = E.2.1 t := Option.some.inj (f1.symm.trans k4)
  rw [hcl]
  generalize hH1 : H.push ({ cls := cA, slots := Array.replicate N .null, vm := .none } : Cell) = H1
  have z1 : H1.size = H.size + 1 := by rw [← hH1, Array.size_push]
  have e1 : H1[H.size]? = some (arrV cA N (fun _ => .null)) := by rw [← hH1, Array.getElem?_push_size, ← arrV_new]
  have o1 : ∀ q : Nat, q < H.size → H1[q]? = H[q]? := fun q hq => by rw [← hH1, Array.getElem?_push, if_neg (Nat.ne_of_lt hq)]
  have hs : H.size = ea E r q := b3.trans hea.symm
  rw [hs]
  refine kk H1 ⟨b1.push hl ?_ o1, bS b2 z1 o1, by omega⟩
  unfold cellV
  rw [hk, if_neg (by show ¬ 10 + t < 10; omega), show ((10 + t, N) : Nat × Nat).1 - 10 = t by show 10 + t - 10 = t; omega, ← hcA, ← hs]
  exact arA.of e1
/-- a final field is set, in a constructor -/
theorem bputF {index r q ci k N : Nat} {C : String} {T : u_T} {ty0 : Nat → FieldType} {ty : FieldType} {v : Value} (F : CallFix p m c cc nL s args TB own) (hT : Stat E s) (hB : BW E s H locs V L n) (hc : kcl[ci]? = some (C, T, N)) (hty : ∀ k, k < N → parseFieldDescriptor (T k).2.2.1 = some (ty0 k)) (hnm : ∀ a, a < N → ∀ b, b < N → a ≠ b → (T a).2.1 ≠ (T b).2.1) (hf : FW own index ci k) (hfin : (T k).2.2.2 = true) (hin2 : meth.name = "<init>") (hdecl : (T k).1 = own) (hte : ty0 k = ty) (hna : narrow ty v = v) (hfi : fits ty v = true)
    (hL : L r q) (hr : r ≠ 12) (hk : kd r q = (ci, N)) (hci : ci < 10) (hdg : decode cc pc = .ok (.putfield index, 3))
    (kk : ∀ (H1 : Heap) (locs1 : List Loc), BW E s H1 locs1 (vs V r q (updV (V r q) k v)) L n → W p l e R s m args below meth c H1 locs1 cells slots Q (F0 m (pc + 3) ls rest)) : W p l e R s m args below meth c H locs cells slots Q (F0 m pc ls (v :: .ref (ea E r q) :: rest)) := by
  obtain ⟨⟨C2, T2, N2⟩, hc1, hk1, hl, hin, hsm⟩ := hf
  cases Option.some.inj (hc.symm.trans hc1)
  dsimp only at hk1 hl hin hsm
  obtain ⟨b1, b2, b3⟩ := hB
  obtain ⟨hlv, hcv⟩ := b1 r q hL
  have hcv2 := hcv
  unfold cellV at hcv2
  rw [hk, if_pos hci] at hcv2
  obtain ⟨q', hq1, hob⟩ := hcv2
  obtain rfl : q' = (C, T, N) := Option.some.inj (hq1.symm.trans hc)
  have hts := F.2.2.2.2
  have hap := va_apart (own := own) hts hin ty0 hty hnm hT.K hc
  obtain ⟨cell, q1, q2, q3, q4⟩ := hob
  obtain ⟨hS, hfc, kC, hkC, hkind⟩ := hT.K.1 ci _ hc
  obtain ⟨cf, kf, fi, f, hi, hsl⟩ := hS k hk1
  have hlay := hts _ (hin _ (u_in_lay hk1))
  unfold u_lay at hlay
  rw [if_pos hfin] at hlay
  have hst := (u_facts hfc hkC (u_lays hts hin hk1) hi).1
  have hcf : m.cls = cf := by
    obtain ⟨_, _, c', _, _, _, -, -, hf', -, -, -, hown2, -⟩ := Cond.laysFinal_spec hlay
    have e1 : c' = cf := by have := hi.symm.trans hf'; simp at this; exact this.1.symm
    rw [hdecl] at hown2
    rw [← e1]; exact Option.some.inj (F.2.2.2.1.symm.trans hown2)
  have h6 := u_fits hfc hkC hkind (Or.inr hlay) hi (by rw [hty k hk1, hte]) hna hfi
  have hi2 : s.fieldFound? C (T k).2.1 (T k).2.2.1 = some (cf, kf, fi, f) := by rw [hsm] at hi; exact hi
  refine W.putFinK F.1 F.2.1 F.2.2.2.1 (hts _ hl) hi2 hst hcf hin2 (by rw [q2]; exact h6) q1 q3 (by rw [hsl]; exact k2_hasslot (q4 k hk1)) rfl rfl hdg fun H' e1 e2 e3 => ?_
  rw [hsl] at e1 ⊢
  refine kk H' _ ⟨b1.upd hT.2.1 hL ?_ e3, b2.put e2 e3 ⟨r, q, ⟨hlv, hr⟩, rfl⟩, e2.trans b3⟩
  unfold cellV
  rw [hk, if_pos hci]
  exact ⟨_, hc, ⟨_, e1, q2, q3, t_set q4 hap hk1 _⟩⟩
/-- a reference is read from a field -/
theorem bgetR {index r q k ci N r' q' : Nat} (F : CallFix p m c cc nL s args TB own) (hT : Stat E s) (hB : BW E s H locs V L n) (hf : FW own index ci k) (hL : L r q) (hk : kd r q = (ci, N)) (hc : ci < 10) (hn : V r q k = .ref (ea E r' q')) (hdg : decode cc pc = .ok (.getfield index, 3))
    (kk : W p l e R s m args below meth c H locs cells slots Q (F0 m (pc + 3) ls (.ref (ea E r' q') :: rest))) : W p l e R s m args below meth c H locs cells slots Q (F0 m pc ls (.ref (ea E r q) :: rest)) := by
  obtain ⟨⟨C, T, N'⟩, hc1, hk1, hl, hin, hsm⟩ := hf
  obtain ⟨hlv, hcv⟩ := hB.1 r q hL
  unfold cellV at hcv
  rw [hk, if_pos hc] at hcv
  obtain ⟨q2, hq1, hob⟩ := hcv
  obtain rfl : q2 = (C, T, N') := Option.some.inj (hq1.symm.trans hc1)
  dsimp only at hk1 hl hin hsm hob
  refine va_get (D := E.1) (cl := kcl) (ws := [(ea E r q, .inr (ci, (List.range N').map (V r q)))]) F.1 F.2.1 F.2.2.2.2 hin F.2.2.2.1 hT.K (fun j x hx => ?_) 0 rfl hc1 k hk1 (F.2.2.2.2 _ hl) (fun x hx => by rw [hsm] at hx; exact hx) (v := .ref (ea E r' q')) ?_ hdg kk
  · have hz : j < 1 := (List.getElem?_eq_some_iff.mp hx).1
    rw [show j = 0 by omega] at hx
    cases hx
    exact ⟨_, hc1, hob.to (fun j hj => by simp [vp_V, hj])⟩
  · simp [hk1, hn]
/-- a laid object is put into a laid array -/
theorem bastq {r q j t N r' q' ci : Nat} {C : String} {T : u_T} {M : Nat} {x : Int32} (F : CallFix p m c cc nL s args TB own) (hT : Stat E s) (hB : BW E s H locs V L n) (hty : (tyL E)[t]? = some (E.2.1 t, .object C)) (hc : kcl[ci]? = some (C, T, M)) (hL : L r q) (hr : r ≠ 12) (hk : kd r q = (10 + t, N)) (hL2 : L r' q') (hk2 : kd r' q' = (ci, M)) (hci : ci < 10) (hj : j < N) (hN : N < 2 ^ 31) (hx : x = nI j) (hdg : decode cc pc = .ok (.aastore, 1))
    (kk : ∀ (H1 : Heap) (locs1 : List Loc), BW E s H1 locs1 (vs V r q (updV (V r q) j (.ref (ea E r' q')))) L n → W p l e R s m args below meth c H1 locs1 cells slots Q (F0 m (pc + 1) ls rest)) : W p l e R s m args below meth c H locs cells slots Q (F0 m pc ls (.ref (ea E r' q') :: .int x :: .ref (ea E r q) :: rest)) := by
  subst hx
  obtain ⟨b1, b2, b3⟩ := hB
  obtain ⟨hlv, hcv⟩ := b1 r q hL
  obtain ⟨hlv2, hcv2⟩ := b1 r' q' hL2
  unfold cellV at hcv hcv2
  rw [hk, if_neg (by show ¬ 10 + t < 10; omega), show ((10 + t, N) : Nat × Nat).1 - 10 = t by show 10 + t - 10 = t; omega] at hcv
  have hcv := hcv.eq hr
  rw [hk2, if_pos hci] at hcv2
  obtain ⟨q2, hq1, cellV2, g1, g2, g3, -⟩ := hcv2
  have hcls := (hT.K.1 ci _ hc).2
  obtain ⟨kA, comp, k1, k2, k3, -⟩ := (hT.K.2 t _ hty).2
  have hcomp : comp = E.1.1 ci := Option.some.inj (k3.symm.trans hcls.1)
  subst hcomp
  obtain ⟨kC, hkC, -⟩ := hcls.2
  have hcl : (nI j).toNatClampNeg = j := nI_clamp (Nat.lt_trans hj hN)
  refine W.aast F.1 F.2.1 hcv (fun q h => by cases h) (fun h => by cases h) k1 k2 rfl hkC ⟨nI_nneg (Nat.lt_trans hj hN), by show _ < (arrV _ _ _).slots.size; rw [arrV_size, hcl]; exact hj⟩ g1 (fun q h => by rw [g3] at h; cases h) (by rw [g2]; exact hkC) (by rw [g2]; exact va_assign hcls) rfl rfl hdg fun H1 e z oq => ?_
  refine kk H1 _ ⟨b1.upd hT.2.1 hL ?_ oq, b2.put z oq ⟨r, q, ⟨hlv, hr⟩, rfl⟩, z.trans b3⟩
  unfold cellV
  rw [hk, if_neg (by show ¬ 10 + t < 10; omega), show ((10 + t, N) : Nat × Nat).1 - 10 = t by show 10 + t - 10 = t; omega]
  refine arA.of ?_
  rw [e, hcl, arrV_store]
theorem balen {r q t N : Nat} {ty : FieldType} {x : Int32} (F : CallFix p m c cc nL s args TB own) (hT : Stat E s) (hB : BW E s H locs V L n) (hL : L r q) (hk : kd r q = (10 + t, N)) (ht : (tyL E)[t]? = some (E.2.1 t, ty)) (hx : nI N = x) (hdg : decode cc pc = .ok (.arraylength, 1))
    (kk : W p l e R s m args below meth c H locs cells slots Q (F0 m (pc + 1) ls (.int x :: rest))) : W p l e R s m args below meth c H locs cells slots Q (F0 m pc ls (.ref (ea E r q) :: rest)) := by
  subst hx
  obtain ⟨hlv, hcv⟩ := hB.1 r q hL
  unfold cellV at hcv
  rw [hk, if_neg (by show ¬ 10 + t < 10; omega), show ((10 + t, N) : Nat × Nat).1 - 10 = t by show 10 + t - 10 = t; omega] at hcv
  obtain ⟨cell, c1, c2, c3, c4, c5⟩ := hcv.ex
  exact W.alen (n := nI N) F.1 F.2.1 c1 ⟨c4, by rw [c2]; exact (ArrOf_t hT t ht N (V r q)).2⟩ (by rw [c3, arrV_size] <;> rfl) rfl rfl hdg kk
end ROWSB
end
section
/-! a static array cloned; the words of the constructors -/
theorem cz_L : Cond.initialized RL ∈ TB := tb_in 0 (by decide +kernel) rfl
theorem cz_X6 : Cond.initialized RX6 ∈ TB := tb_in 1 (by decide +kernel) rfl
theorem cz_X3 : Cond.initialized RX3 ∈ TB := tb_in 2 (by decide +kernel) rfl
theorem cz_X1 : Cond.initialized RX1 ∈ TB := tb_in 3 (by decide +kernel) rfl
theorem cz_X5 : Cond.initialized RX5 ∈ TB := tb_in 4 (by decide +kernel) rfl
theorem cz_X4 : Cond.initialized RX4 ∈ TB := tb_in 5 (by decide +kernel) rfl
theorem cz_X0 : Cond.initialized RX0 ∈ TB := tb_in 6 (by decide +kernel) rfl
theorem cz_X2 : Cond.initialized RX2 ∈ TB := tb_in 7 (by decide +kernel) rfl
theorem ci_X6 : Cond.instantiable RX6 6 ∈ TB := tb_in 10 (by decide +kernel) rfl
theorem co_X6 : Cond.methodLink RX6 1 Lib.objectInit ∈ TB := tb_in 14 (by decide +kernel) rfl
theorem cl_X6_7 : Cond.classLink RX6 7 RX3 ∈ TB := tb_in 17 (by decide +kernel) rfl
theorem ci_X3 : Cond.instantiable RX3 11 ∈ TB := tb_in 18 (by decide +kernel) rfl
theorem co_X3 : Cond.methodLink RX3 3 Lib.objectInit ∈ TB := tb_in 22 (by decide +kernel) rfl
theorem cl_X3_14 : Cond.classLink RX3 14 "[I" ∈ TB := tb_in 31 (by decide +kernel) rfl
theorem cl_X3_23 : Cond.classLink RX3 23 RX1 ∈ TB := tb_in 32 (by decide +kernel) rfl
theorem ci_X1 : Cond.instantiable RX1 16 ∈ TB := tb_in 34 (by decide +kernel) rfl
theorem co_X1 : Cond.methodLink RX1 3 Lib.objectInit ∈ TB := tb_in 38 (by decide +kernel) rfl
theorem ca_int : Cond.arrayClass (newarray.typeOf .int) ∈ TB := tb_in 96 (by decide +kernel) rfl
theorem cl_X3_30 : Cond.classLink RX3 30 RX5 ∈ TB := tb_in 97 (by decide +kernel) rfl
theorem ci_X5 : Cond.instantiable RX5 3 ∈ TB := tb_in 99 (by decide +kernel) rfl
theorem co_X5 : Cond.methodLink RX5 3 Lib.objectInit ∈ TB := tb_in 103 (by decide +kernel) rfl
theorem cl_X3_37 : Cond.classLink RX3 37 RX4 ∈ TB := tb_in 117 (by decide +kernel) rfl
theorem ci_X4 : Cond.instantiable RX4 4 ∈ TB := tb_in 119 (by decide +kernel) rfl
theorem co_X4 : Cond.methodLink RX4 3 Lib.objectInit ∈ TB := tb_in 123 (by decide +kernel) rfl
theorem cl_X6_27 : Cond.classLink RX6 27 RX0 ∈ TB := tb_in 176 (by decide +kernel) rfl
theorem ci_X0 : Cond.instantiable RX0 3 ∈ TB := tb_in 177 (by decide +kernel) rfl
theorem co_X0 : Cond.methodLink RX0 3 Lib.objectInit ∈ TB := tb_in 181 (by decide +kernel) rfl
theorem cl_X0_9 : Cond.classLink RX0 9 RX3 ∈ TB := tb_in 182 (by decide +kernel) rfl
theorem ca_boolean : Cond.arrayClass (newarray.typeOf .boolean) ∈ TB := tb_in 195 (by decide +kernel) rfl
theorem cl_X6_34 : Cond.classLink RX6 34 RX2 ∈ TB := tb_in 196 (by decide +kernel) rfl
theorem ci_X2 : Cond.instantiable RX2 2 ∈ TB := tb_in 197 (by decide +kernel) rfl
theorem co_X2 : Cond.methodLink RX2 3 Lib.objectInit ∈ TB := tb_in 201 (by decide +kernel) rfl
theorem ca_char : Cond.arrayClass (newarray.typeOf .char) ∈ TB := tb_in 209 (by decide +kernel) rfl
theorem co_im : Cond.instanceMethod Lib.objectInit ∈ TB := tb_in 15 (by decide +kernel) rfl
theorem co_cd : Cond.code Lib.objectInit ⟨#[0xb1]⟩ 1 none ∈ TB := tb_in 16 (by decide +kernel) rfl
section ROWSC
variable {p : Program} {l : Launch} {e : Env} {R : Room} {s : State} {m : MethodId} {args : Array Value} {below : List Frame} {meth : Method} {c : Code} {H : Heap} {locs : List Loc} {cells slots : Nat} {Q : State → Prop}
variable {cc : ByteArray} {nL pc : Nat} {ls : Array Slot} {rest : List Value} {own : String} {E : mE} {V : Vs} {L : Nat → Nat → Prop} {n : Nat}
theorem cw_sm : Cond.sameMethod "[I" "java/lang/Object" "clone" "()Ljava/lang/Object;" ∈ TB := tb_in 26 (by decide +kernel) rfl
theorem cw_na : Cond.native ⟨"java/lang/Object", "clone", "()Ljava/lang/Object;"⟩ ∈ TB := tb_in 27 (by decide +kernel) rfl
theorem cw_im : Cond.instanceMethod ⟨"java/lang/Object", "clone", "()Ljava/lang/Object;"⟩ ∈ TB := tb_in 28 (by decide +kernel) rfl
theorem cw_se : Cond.selects "[I" ⟨"[I", "clone", "()Ljava/lang/Object;"⟩ ⟨"java/lang/Object", "clone", "()Ljava/lang/Object;"⟩ ∈ TB := tb_in 29 (by decide +kernel) rfl
theorem bclone {index r q r' q' N : Nat} {f : Nat → Int32} (F : CallFix p m c cc nL s args TB own) (hml : nL = ls.size) (hT : Stat E s) (hB : BW E s H locs V L n) (hlink : Cond.methodLink own index ⟨"[I", "clone", "()Ljava/lang/Object;"⟩ ∈ TB)
    (hL : L r' q') (hk : kd r' q' = (10, N)) (hv : V r' q' = fun j => .int (f j)) (hea : ea E r q = n) (hl : live E r q) (hk2 : kd r q = (10, N)) (hframes : 1 ≤ R.frames) (hlocals : (rest.map fun v => v.category).sum + 14 ≤ R.locals) (hcells : cells + 1 ≤ R.cells) (hslots : slots + N ≤ R.slots) (hdg : decode cc pc = .ok (.invokevirtual index, 3))
    (kk : ∀ H1 : Heap, BW E s H1 locs (vs V r q (fun j => .int (f j))) (fun a b => L a b ∨ (a = r ∧ b = q)) (n + 1) → W p l e R s m args below meth c H1 locs (cells + 1) (slots + N) Q (F0 m (pc + 3) ls (.ref (ea E r q) :: rest))) : W p l e R s m args below meth c H locs cells slots Q (F0 m pc ls (.ref (ea E r' q') :: rest)) := by
  have hts := F.2.2.2.2
  obtain ⟨b1, b2, b3⟩ := hB
  have hcv := (b1 r' q' hL).2
  unfold cellV at hcv
  rw [hk, if_neg (by show ¬ 10 < 10; omega), show ((10, N) : Nat × Nat).1 - 10 = 0 from rfl, hv] at hcv
  have hA0 := hT.K.2 0 (E.2.1 0, .int) rfl
  have hnm : s.vm.findClass "[I" = some (E.2.1 0) := va_nm_int hA0.2
  obtain ⟨c0, t0', f1, f2, f3⟩ := Cond.castable_spec (va_Nw.use (A := args) rfl hT.1.2.2.2.2)
  cases hnm.symm.trans f1
  intro T hT2 X
  obtain ⟨cell, y1, y2, y3, y4, y5⟩ := hcv.ex
  have hcellT : T.heap[ea E r' q']? = some cell := by rw [hT2]; exact y1
  have hnew : ({ cls := cell.cls, slots := cell.slots } : Cell) = arrV (E.2.1 0) N (fun j => .int (f j)) := by rw [y2, y3]; rfl
  obtain ⟨-, kA, hkA, comp, hkind⟩ := State.isArrayOf_alike X.warmed.alike (hA0.1 0 (fun _ => .null))
  obtain ⟨-, kS, hkS, compS, hkindS⟩ := hA0.1 0 (fun _ => .null)
  obtain ⟨vm', X', st⟩ := X.cloneArray F.1 F.2.2.2.1 (hts _ hlink) (hts _ cw_sm) (hts _ cw_na) (hts _ cw_im) (hts _ cw_se) (a := ea E r' q') (cell := cell) hcellT y4 y5 (by rw [y2]; exact hnm) f2 (by rw [y2]; exact f3)
    (fun i v hv2 => by
      rw [y3] at hv2
      rw [y2]
      have hk' : T.vm.classes[E.2.1 0]? = some kA := hkA
      have hf : fits .int v = true := va_fit (F := fun j => .int (f j)) (fun i _ => rfl) i v hv2
      simpa [State.fitsSlot, State.slotType?, arrV, hk', hkind] using hf)
    (g := F0 m pc ls (.ref (ea E r' q') :: rest)) rfl (by rw [F.2.2.1, hml]) rfl (by rw [F.2.1]; exact hdg) hframes (by show 2 * 0 + _ + 14 ≤ _; omega) hcells (by rw [y3, arrV_size]; exact hslots) (hloader := by rw [y2]; exact Vm.clonesLoader_of_array hkS hkindS)
  rw [hnew, y3, arrV_size] at X'
  rw [hnew] at st
  generalize hH1 : H.push (arrV (E.2.1 0) N (fun j => .int (f j))) = H1
  have z1 : H1.size = H.size + 1 := by rw [← hH1, Array.size_push]
  have e1 : H1[H.size]? = some (arrV (E.2.1 0) N (fun j => .int (f j))) := by rw [← hH1, Array.getElem?_push_size]
  have o1 : ∀ q : Nat, q < H.size → H1[q]? = H[q]? := fun q hq => by rw [← hH1, Array.getElem?_push, if_neg (Nat.ne_of_lt hq)]
  have hs : H.size = ea E r q := b3.trans hea.symm
  obtain ⟨t, a1, a2⟩ := kk H1 ⟨b1.push hl (by
    unfold cellV
    rw [hk2, if_neg (by show ¬ 10 < 10; omega), show ((10, N) : Nat × Nat).1 - 10 = 0 from rfl, ← hs]
    exact arA.of e1) o1, bS b2 z1 o1, by omega⟩ ((T.setVm vm').pushCell (arrV (E.2.1 0) N (fun j => .int (f j)))) (by rw [← hH1, ← hT2]; rfl) X'
  refine ⟨t, st t ?_, a2⟩
  rw [hT2, hs]
  exact a1
theorem bcast {index r q N : Nat} {f : Nat → Int32} (F : CallFix p m c cc nL s args TB own) (hT : Stat E s) (hB : BW E s H locs V L n) (hlink : Cond.classLink own index "[I" ∈ TB) (hL : L r q) (hr : r ≠ 12) (hk : kd r q = (10, N)) (hv : V r q = fun j => .int (f j)) (hdg : decode cc pc = .ok (.checkcast index, 3))
    (k : W p l e R s m args below meth c H locs cells slots Q (F0 m (pc + 3) ls (.ref (ea E r q) :: rest))) : W p l e R s m args below meth c H locs cells slots Q (F0 m pc ls (.ref (ea E r q) :: rest)) := by
  have hcv := (hB.1 r q hL).2
  unfold cellV at hcv
  rw [hk, if_neg (by show ¬ 10 < 10; omega), show ((10, N) : Nat × Nat).1 - 10 = 0 from rfl, hv] at hcv
  have hcv := hcv.eq hr
  have hnm : s.vm.findClass "[I" = some (E.2.1 0) := va_nm_int (hT.K.2 0 (E.2.1 0, .int) rfl).2
  exact va_castA (D := E.1) (cl := kcl) (ws := [(ea E r q, .inl (E.2.1 0, (N, .inl f)))]) F.1 F.2.1 F.2.2.2.1 (F.2.2.2.2 _ hlink) (fun j x hx => by
    have hz : j < 1 := (List.getElem?_eq_some_iff.mp hx).1
    rw [show j = 0 by omega] at hx
    cases hx
    exact hcv) 0 rfl hnm hdg k
theorem bobj {index r q : Nat} (F : CallFix p m c cc nL s args TB own) (hml : ls.size = nL) (hlink : Cond.methodLink own index Lib.objectInit ∈ TB) (hframes : 1 ≤ R.frames) (hlocals : (rest.map fun v => v.category).sum + 12 ≤ R.locals) (hdg : decode cc pc = .ok (.invokespecial index, 3))
    (k : W p l e R s m args below meth c H locs cells slots Q (F0 m (pc + 3) ls rest)) : W p l e R s m args below meth c H locs cells slots Q (F0 m pc ls (.ref (ea E r q) :: rest)) :=
  W.objInit F.1 F.2.1 F.2.2.2.1 (F.2.2.2.2 _ hlink) (F.2.2.2.2 _ co_im) (F.2.2.2.2 _ co_cd) rfl (hml.trans F.2.2.1.symm) rfl hdg hframes (by show 2 * 0 + _ + 12 ≤ _; omega) k
end ROWSC
end
section
abbrev Pb (E : mE) (av : List Value) (V : Vs) (L : Nat → Nat → Prop) (n : Nat) : Array Value → State → Prop := va_Pc av (fun U => Stat E U ∧ PB E V L U.heap ∧ U.heap.size = n)
abbrev Qb (E : mE) (V : Vs) (L : Nat → Nat → Prop) (n : Nat) : Array Value → State → Outcome → State → Prop := va_Qv (fun _ : Unit => True) (fun _ t => PB E V L t.heap ∧ t.heap.size = n) (AA E)
theorem Pb_blind {E : mE} {av : List Value} {V : Vs} {L : Nat → Nat → Prop} {n : Nat} : FrameBlind (Pb E av V L n) := fun a U g mk q => ⟨q.1, q.2.1.same rfl rfl, q.2.2⟩
section BEND
variable {p : Program} {l : Launch} {e : Env} {R : Room} {s : State} {m : MethodId} {args : Array Value} {below : List Frame} {meth : Method} {c : Code} {H : Heap} {locs : List Loc} {cells slots : Nat} {Q : State → Prop}
variable {index : Nat} {y : MethodName} {cd : ByteArray} {mL k fr lo : Nat} {Qc : Array Value → State → Outcome → State → Prop} {As : List Value} {a : Nat}
theorem bpre (hT : Stat E s) (hB : BW E s H locs V L n) {av : List Value} : ∀ U : State, U.heap = H → s.WarmedH U.vm → Pb E av V L n av.toArray U := fun U hU hw => ⟨rfl, hT.moved hw hB.2.1 hU, by rw [hU]; exact hB.1, by rw [hU]; exact hB.2.2⟩
end BEND
end
section
/-! class Server's constructor, class Pad's -/
theorem updV_at (f : Nat → Value) (k : Nat) (v : Value) : updV f k v k = v := by simp [updV]
def SVf (E : mE) (r : Nat) (d : Nat → Value) (a b c : Nat) (q : Nat) : Nat → Value := fun k => if q = 0 then d k else if q = 1 then .int (vFst k) else if q = 2 then (if k < a then .ref (ea E r (3 + k)) else .null) else if q = 15 then (if k < b then .ref (ea E r (16 + k)) else .null) else if q = 22 then (if k < c then .ref (ea E r (23 + k)) else .null) else .int 0
def VSr (V : Vs) (E : mE) (r : Nat) (d : Nat → Value) (a b c : Nat) : Vs := fun r' q' => if r' = r then SVf E r d a b c q' else V r' q'
def LSr (L : Nat → Nat → Prop) (r m : Nat) : Nat → Nat → Prop := fun r' q' => L r' q' ∨ (r' = r ∧ 1 ≤ q' ∧ q' < m)
theorem dfl1 (k : Nat) : defaultValue (tyX1 k) = .int 0 := by unfold tyX1; split <;> rfl
theorem dfl5 (k : Nat) : defaultValue (tyX5 k) = .int 0 := by unfold tyX5; split <;> rfl
theorem dfl4 (k : Nat) : defaultValue (tyX4 k) = .int 0 := by unfold tyX4; split <;> rfl
theorem st1 {V : Vs} {E : mE} {r : Nat} {d : Nat → Value} {L : Nat → Nat → Prop} {b c j : Nat} (hj : j < 12) : ∀ r' q', LSr L r (3 + (j + 1)) r' q' → (LSr L r (3 + j) r' q' ∨ (r' = r ∧ q' = 3 + j)) ∧ VSr V E r d (j + 1) b c r' q' = vs (vs (VSr V E r d j b c) r (3 + j) (fun k => defaultValue (tyX1 k))) r 2 (updV ((vs (VSr V E r d j b c) r (3 + j) (fun k => defaultValue (tyX1 k))) r 2) j (.ref (ea E r (3 + j)))) r' q' := by
  intro r' q' h
  refine ⟨?_, ?_⟩
  · rcases h with h | ⟨h1, h2, h3⟩
    · exact Or.inl (Or.inl h)
    · by_cases hq : q' = 3 + j
      · exact Or.inr ⟨h1, hq⟩
      · exact Or.inl (Or.inr ⟨h1, h2, by omega⟩)
  · by_cases hr : r' = r
    · subst hr
      by_cases h2 : q' = 2
      · subst h2
        rw [vs_at, vs_ne _ _ (by omega)]
        funext k
        by_cases hk : k = j
        · subst hk
          rw [updV_at]
          simp [VSr, SVf]
        · simp only [updV, if_neg hk, VSr, SVf, if_true]
          by_cases hkj : k < j
          · simp [hkj, Nat.lt_succ_of_lt hkj]
          · have : ¬ k < j + 1 := by omega
            simp [hkj, this]
      · rw [vs_ne _ _ (by omega)]
        by_cases h3 : q' = 3 + j
        · subst h3
          rw [vs_at]
          funext k
          rw [dfl1]
          simp only [VSr, SVf, if_true]
          rw [if_neg (by omega), if_neg (by omega), if_neg (by omega), if_neg (by omega), if_neg (by omega)]
        · rw [vs_ne _ _ (by omega)]
          simp only [VSr, if_true]
          funext k
          unfold SVf
          simp only [h2, if_false]
    · rw [vs_ne _ _ (by omega), vs_ne _ _ (by omega)]
      simp only [VSr, if_neg hr]
theorem st2 {V : Vs} {E : mE} {r : Nat} {d : Nat → Value} {L : Nat → Nat → Prop} {a c j : Nat} (hj : j < 6) : ∀ r' q', LSr L r (16 + (j + 1)) r' q' → (LSr L r (16 + j) r' q' ∨ (r' = r ∧ q' = 16 + j)) ∧ VSr V E r d a (j + 1) c r' q' = vs (vs (VSr V E r d a j c) r (16 + j) (fun k => defaultValue (tyX5 k))) r 15 (updV ((vs (VSr V E r d a j c) r (16 + j) (fun k => defaultValue (tyX5 k))) r 15) j (.ref (ea E r (16 + j)))) r' q' := by
  intro r' q' h
  refine ⟨?_, ?_⟩
  · rcases h with h | ⟨h1, h2, h3⟩
    · exact Or.inl (Or.inl h)
    · by_cases hq : q' = 16 + j
      · exact Or.inr ⟨h1, hq⟩
      · exact Or.inl (Or.inr ⟨h1, h2, by omega⟩)
  · by_cases hr : r' = r
    · subst hr
      by_cases h2 : q' = 15
      · subst h2
        rw [vs_at, vs_ne _ _ (by omega)]
        funext k
        by_cases hk : k = j
        · subst hk
          rw [updV_at]
          simp [VSr, SVf]
        · simp only [updV, if_neg hk, VSr, SVf, if_true]
          by_cases hkj : k < j
          · simp [hkj, Nat.lt_succ_of_lt hkj]
          · have : ¬ k < j + 1 := by omega
            simp [hkj, this]
      · rw [vs_ne _ _ (by omega)]
        by_cases h3 : q' = 16 + j
        · subst h3
          rw [vs_at]
          funext k
          rw [dfl5]
          simp only [VSr, SVf, if_true]
          rw [if_neg (by omega), if_neg (by omega), if_neg (by omega), if_neg (by omega), if_neg (by omega)]
        · rw [vs_ne _ _ (by omega)]
          simp only [VSr, if_true]
          funext k
          unfold SVf
          simp only [h2, if_false]
    · rw [vs_ne _ _ (by omega), vs_ne _ _ (by omega)]
      simp only [VSr, if_neg hr]
theorem st3 {V : Vs} {E : mE} {r : Nat} {d : Nat → Value} {L : Nat → Nat → Prop} {a b j : Nat} (hj : j < 8) : ∀ r' q', LSr L r (23 + (j + 1)) r' q' → (LSr L r (23 + j) r' q' ∨ (r' = r ∧ q' = 23 + j)) ∧ VSr V E r d a b (j + 1) r' q' = vs (vs (VSr V E r d a b j) r (23 + j) (fun k => defaultValue (tyX4 k))) r 22 (updV ((vs (VSr V E r d a b j) r (23 + j) (fun k => defaultValue (tyX4 k))) r 22) j (.ref (ea E r (23 + j)))) r' q' := by
  intro r' q' h
  refine ⟨?_, ?_⟩
  · rcases h with h | ⟨h1, h2, h3⟩
    · exact Or.inl (Or.inl h)
    · by_cases hq : q' = 23 + j
      · exact Or.inr ⟨h1, hq⟩
      · exact Or.inl (Or.inr ⟨h1, h2, by omega⟩)
  · by_cases hr : r' = r
    · subst hr
      by_cases h2 : q' = 22
      · subst h2
        rw [vs_at, vs_ne _ _ (by omega)]
        funext k
        by_cases hk : k = j
        · subst hk
          rw [updV_at]
          simp [VSr, SVf]
        · simp only [updV, if_neg hk, VSr, SVf, if_true]
          by_cases hkj : k < j
          · simp [hkj, Nat.lt_succ_of_lt hkj]
          · have : ¬ k < j + 1 := by omega
            simp [hkj, this]
      · rw [vs_ne _ _ (by omega)]
        by_cases h3 : q' = 23 + j
        · subst h3
          rw [vs_at]
          funext k
          rw [dfl4]
          simp only [VSr, SVf, if_true]
          rw [if_neg (by omega), if_neg (by omega), if_neg (by omega), if_neg (by omega), if_neg (by omega)]
        · rw [vs_ne _ _ (by omega)]
          simp only [VSr, if_true]
          funext k
          unfold SVf
          simp only [h2, if_false]
    · rw [vs_ne _ _ (by omega), vs_ne _ _ (by omega)]
      simp only [VSr, if_neg hr]
end
section
/-! class Server's constructor -/
theorem SVf_0 {E : mE} {r : Nat} {d : Nat → Value} {a b c : Nat} : SVf E r d a b c 0 = d := by
  funext k
  simp [SVf]
theorem SVf_1 {E : mE} {r : Nat} {d : Nat → Value} {a b c : Nat} : SVf E r d a b c 1 = fun j => .int (vFst j) := by
  funext k
  simp [SVf]
theorem SVf_2 {E : mE} {r : Nat} {d : Nat → Value} {b c : Nat} : SVf E r d 0 b c 2 = fun _ => .null := by
  funext k
  simp [SVf]
theorem SVf_15 {E : mE} {r : Nat} {d : Nat → Value} {a c : Nat} : SVf E r d a 0 c 15 = fun _ => .null := by
  funext k
  simp [SVf]
theorem SVf_22 {E : mE} {r : Nat} {d : Nat → Value} {a b : Nat} : SVf E r d a b 0 22 = fun _ => .null := by
  funext k
  simp [SVf]
theorem SVf_d {E : mE} {r q : Nat} {d d' : Nat → Value} {a b c : Nat} (h : ¬ q = 0) : SVf E r d a b c q = SVf E r d' a b c q := by
  funext k
  simp [SVf, h]
def d1 (E : mE) (r : Nat) (d : Nat → Value) : Nat → Value := updV (updV d 1 (.ref (ea E r 1))) 2 (.ref (ea E r 2))
def d2 (E : mE) (r : Nat) (d : Nat → Value) : Nat → Value := updV (d1 E r d) 4 (.ref (ea E r 15))
def d3 (E : mE) (r : Nat) (d : Nat → Value) : Nat → Value := updV (d2 E r d) 6 (.ref (ea E r 22))
theorem en1 {V : Vs} {E : mE} {r : Nat} {L : Nat → Nat → Prop} (hLr : ∀ q, L r q → q = 0) : ∀ r' q', LSr L r (3 + 0) r' q' → ((L r' q' ∨ (r' = r ∧ q' = 1)) ∨ (r' = r ∧ q' = 2)) ∧ VSr V E r (d1 E r (V r 0)) 0 0 0 r' q' =
    vs (vs (vs (vs V r 1 (fun j => .int (vFst j))) r 0 (updV ((vs V r 1 (fun j => .int (vFst j))) r 0) 1 (.ref (ea E r 1)))) r 2 (fun _ => .null)) r 0 (updV ((vs (vs (vs V r 1 (fun j => .int (vFst j))) r 0 (updV ((vs V r 1 (fun j => .int (vFst j))) r 0) 1 (.ref (ea E r 1)))) r 2 (fun _ => .null)) r 0) 2 (.ref (ea E r 2))) r' q' := by
  intro r' q' h
  have hq : r' = r → q' = 0 ∨ q' = 1 ∨ q' = 2 := fun e => by
    rcases h with h | ⟨h1, h2, h3⟩
    · exact Or.inl (hLr _ (e ▸ h))
    · omega
  refine ⟨?_, ?_⟩
  · rcases h with h | ⟨h1, h2, h3⟩
    · exact Or.inl (Or.inl h)
    · by_cases hq1 : q' = 1
      · exact Or.inl (Or.inr ⟨h1, hq1⟩)
      · exact Or.inr ⟨h1, by omega⟩
  · by_cases hr : r' = r
    · subst hr
      rcases hq rfl with rfl | rfl | rfl
      · simp [VSr, SVf_0, vs, d1]
      · simp [VSr, SVf_1, vs]
      · simp [VSr, SVf_2, vs]
    · simp [VSr, vs, hr]
theorem en2 {V : Vs} {E : mE} {r q0 f a b c : Nat} {d : Nat → Value} {L : Nat → Nat → Prop} (h0 : (q0 = 15 ∧ b = 0) ∨ (q0 = 22 ∧ c = 0)) : ∀ r' q', LSr L r (q0 + 1 + 0) r' q' → (LSr L r q0 r' q' ∨ (r' = r ∧ q' = q0)) ∧ VSr V E r (updV d f (.ref (ea E r q0))) a b c r' q' =
    vs (vs (VSr V E r d a b c) r q0 (fun _ => .null)) r 0 (updV ((vs (VSr V E r d a b c) r q0 (fun _ => .null)) r 0) f (.ref (ea E r q0))) r' q' := by
  intro r' q' h
  refine ⟨?_, ?_⟩
  · rcases h with h | ⟨h1, h2, h3⟩
    · exact Or.inl (Or.inl h)
    · by_cases hq1 : q' = q0
      · exact Or.inr ⟨h1, hq1⟩
      · exact Or.inl (Or.inr ⟨h1, h2, by omega⟩)
  · by_cases hr : r' = r
    · subst hr
      have h0' : ¬ 0 = q0 := by omega
      by_cases hq0 : q' = 0
      · subst hq0
        simp [VSr, SVf_0, vs, h0']
      · by_cases hq1 : q' = q0
        · subst hq1
          rcases h0 with ⟨rfl, rfl⟩ | ⟨rfl, rfl⟩
          · simp [VSr, SVf_15, vs]
          · simp [VSr, SVf_22, vs]
        · simp [VSr, vs, hq0, hq1]
          exact SVf_d hq0
    · simp [VSr, vs, hr]
section GSN
variable {p : Program} {l : Launch} {e : Env} {R : Room} {s : State} {m : MethodId} {args : Array Value} {below : List Frame} {meth : Method} {c : Code} {H : Heap} {locs : List Loc} {cells slots : Nat} {Q : State → Prop}
variable {cc : ByteArray} {nL pc : Nat} {ls : Array Slot} {rest : List Value} {own : String} {E : mE} {V : Vs} {L : Nat → Nat → Prop} {n index a : Nat} {nm : String}
theorem bgsN (F : CallFix p m c cc nL s args TB own) (hT : Stat E s) (hB : BW E s H locs V L n) (hZ : va_Z "InterruptInn" nm "[I" (.ref a) (AA E) s s.heap) (hl : (own, index, "InterruptInn", nm, "[I", "InterruptInn") ∈ nwF) (hdg : decode cc pc = .ok (.getstatic index, 3))
    (kk : W p l e R s m args below meth c H locs cells slots Q (F0 m (pc + 3) ls (.ref a :: rest))) : W p l e R s m args below meth c H locs cells slots Q (F0 m pc ls rest) :=
  va_getsN F.1 F.2.1 hZ hB.2.1 F.2.2.2.1 (va_Nw.use rfl (hT.1.2.1 _ hl)) (fun _ h => h) hdg kk
end GSN
end
section
/-- a server's object as it is born -/
def dS : Nat → Value := fun k => defaultValue (tyX3 k)
def HSt (V : Vs) (E : mE) (d : Nat → Value) (j : Nat) : Vs := fun r' q' => if 4 ≤ r' ∧ r' < 4 + j then SVf E r' (d3 E r' dS) 12 6 8 q' else if r' = 11 ∧ q' = 3 then d else if r' = 11 ∧ q' = 4 then (fun k => if k < j then .ref (ea E (4 + k) 0) else .null) else V r' q'
def LHt (L : Nat → Nat → Prop) (j : Nat) : Nat → Nat → Prop := fun r' q' => L r' q' ∨ (r' = 11 ∧ q' = 4) ∨ (4 ≤ r' ∧ r' < 4 + j ∧ q' < 31)
theorem enH {V : Vs} {E : mE} {L : Nat → Nat → Prop} : ∀ r' q', LHt L 0 r' q' → (L r' q' ∨ (r' = 11 ∧ q' = 4)) ∧ HSt V E (updV (V 11 3) 0 (.ref (ea E 11 4))) 0 r' q' = vs (vs V 11 4 (fun _ => .null)) 11 3 (updV ((vs V 11 4 (fun _ => .null)) 11 3) 0 (.ref (ea E 11 4))) r' q' := by
  intro r' q' h
  refine ⟨?_, ?_⟩
  · rcases h with h | h | ⟨h1, h2, h3⟩
    · exact Or.inl h
    · exact Or.inr h
    · omega
  · unfold HSt
    rw [if_neg (by omega)]
    by_cases h3 : r' = 11 ∧ q' = 3
    · obtain ⟨rfl, rfl⟩ := h3
      simp [vs]
    · rw [if_neg h3, vs_ne _ _ h3]
      by_cases h4 : r' = 11 ∧ q' = 4
      · obtain ⟨rfl, rfl⟩ := h4
        simp [vs]
      · rw [if_neg h4, vs_ne _ _ h4]
theorem HSt_114 {V : Vs} {E : mE} {d : Nat → Value} {j : Nat} (hj : j ≤ 7) : HSt V E d j 11 4 = fun k => if k < j then .ref (ea E (4 + k) 0) else .null := by
  unfold HSt
  rw [if_neg (by omega), if_neg (by omega), if_pos ⟨rfl, rfl⟩]
theorem HSt_113 {V : Vs} {E : mE} {d : Nat → Value} {j : Nat} (hj : j ≤ 7) : HSt V E d j 11 3 = d := by
  unfold HSt
  rw [if_neg (by omega), if_pos ⟨rfl, rfl⟩]
theorem stH {V : Vs} {E : mE} {d : Nat → Value} {L : Nat → Nat → Prop} {j : Nat} (hj : j < 7) : ∀ r' q', LHt L (j + 1) r' q' → LSr (fun r' q' => LHt L j r' q' ∨ (r' = 4 + j ∧ q' = 0)) (4 + j) 31 r' q' ∧ HSt V E d (j + 1) r' q' = vs (VSr (vs (HSt V E d j) (4 + j) 0 dS) E (4 + j) (d3 E (4 + j) dS) 12 6 8) 11 4 (updV (VSr (vs (HSt V E d j) (4 + j) 0 dS) E (4 + j) (d3 E (4 + j) dS) 12 6 8 11 4) j (.ref (ea E (4 + j) 0))) r' q' := by
  intro r' q' h
  refine ⟨?_, ?_⟩
  · rcases h with h | h | ⟨h1, h2, h3⟩
    · exact Or.inl (Or.inl (Or.inl h))
    · exact Or.inl (Or.inl (Or.inr (Or.inl h)))
    · by_cases hr : r' = 4 + j
      · by_cases hq : q' = 0
        · exact Or.inl (Or.inr ⟨hr, hq⟩)
        · exact Or.inr ⟨hr, by omega, h3⟩
      · exact Or.inl (Or.inl (Or.inr (Or.inr ⟨h1, by omega, h3⟩)))
  · by_cases h4 : r' = 11 ∧ q' = 4
    · obtain ⟨rfl, rfl⟩ := h4
      rw [vs_at]
      have e11 : ¬ 11 = 4 + j := by omega
      rw [HSt_114 (by omega)]
      funext k
      by_cases hk : k = j
      · subst hk
        rw [updV_at, if_pos (by omega)]
      · simp only [updV, if_neg hk, VSr, if_neg e11]
        rw [vs_ne _ _ (by omega), HSt_114 (by omega)]
        by_cases hkj : k < j
        · rw [if_pos (by omega)]
          exact (if_pos hkj).symm
        · rw [if_neg (by omega)]
          exact (if_neg hkj).symm
    · rw [vs_ne _ _ h4]
      unfold VSr
      by_cases hr : r' = 4 + j
      · subst hr
        rw [if_pos rfl]
        unfold HSt
        rw [if_pos (by omega)]
      · rw [if_neg hr, vs_ne _ _ (by omega)]
        unfold HSt
        by_cases hin : 4 ≤ r' ∧ r' < 4 + j
        · rw [if_pos hin, if_pos (by omega)]
        · rw [if_neg hin, if_neg (by omega), if_neg h4]
          rw [if_neg h4]
end
section
/-! class InterruptInn's constructor -/
def XV (V : Vs) (E : mE) (d : Nat → Value) (k m : Nat) : Vs := fun r' q' => if r' < k then SVf E r' (d3 E r' dS) 12 6 8 q' else if r' = 11 ∧ q' = 0 then d else if r' = 11 ∧ q' = 1 then (fun i => if i < m then .ref (ea E (2 + i) 0) else .null) else V r' q'
def XL (L : Nat → Nat → Prop) (k b : Nat) : Nat → Nat → Prop := fun r' q' => L r' q' ∨ (r' < k ∧ q' < 31) ∨ (r' = 11 ∧ 1 ≤ q' ∧ q' < b)
theorem XV_0 {V : Vs} {E : mE} {d : Nat → Value} {k m : Nat} (hk : k ≤ 4) : XV V E d k m 11 0 = d := by
  unfold XV
  rw [if_neg (by omega), if_pos ⟨rfl, rfl⟩]
theorem XV_1 {V : Vs} {E : mE} {d : Nat → Value} {k m : Nat} (hk : k ≤ 4) : XV V E d k m 11 1 = fun i => if i < m then .ref (ea E (2 + i) 0) else .null := by
  unfold XV
  rw [if_neg (by omega), if_neg (by omega), if_pos ⟨rfl, rfl⟩]
theorem enX {V : Vs} {E : mE} {L : Nat → Nat → Prop} (hL : ∀ r' q', L r' q' → r' = 12 ∨ (r' = 11 ∧ q' = 0)) : ∀ r' q', XL L 0 1 r' q' → L r' q' ∧ XV V E (V 11 0) 0 0 r' q' = V r' q' := by
  intro r' q' h
  have h1 : L r' q' := by
    rcases h with h | h | h
    · exact h
    · omega
    · omega
  refine ⟨h1, ?_⟩
  unfold XV
  rw [if_neg (by omega)]
  rcases hL _ _ h1 with rfl | ⟨rfl, rfl⟩
  · rw [if_neg (by omega), if_neg (by omega)]
  · rw [if_pos ⟨rfl, rfl⟩]
theorem svX {V : Vs} {E : mE} {d : Nat → Value} {L : Nat → Nat → Prop} {k m b : Nat} : ∀ r' q', XL L (k + 1) b r' q' → LSr (fun r' q' => XL L k b r' q' ∨ (r' = k ∧ q' = 0)) k 31 r' q' ∧ XV V E d (k + 1) m r' q' = VSr (vs (XV V E d k m) k 0 dS) E k (d3 E k dS) 12 6 8 r' q' := by
  intro r' q' h
  refine ⟨?_, ?_⟩
  · rcases h with h | ⟨h1, h2⟩ | h
    · exact Or.inl (Or.inl (Or.inl h))
    · by_cases hr : r' = k
      · by_cases hq : q' = 0
        · exact Or.inl (Or.inr ⟨hr, hq⟩)
        · exact Or.inr ⟨hr, by omega, h2⟩
      · exact Or.inl (Or.inl (Or.inr (Or.inl ⟨by omega, h2⟩)))
    · exact Or.inl (Or.inl (Or.inr (Or.inr h)))
  · unfold VSr
    by_cases hr : r' = k
    · subst hr
      rw [if_pos rfl]
      unfold XV
      rw [if_pos (by omega)]
    · rw [if_neg hr, vs_ne _ _ (by omega)]
      unfold XV
      by_cases h1 : r' < k
      · rw [if_pos h1, if_pos (by omega)]
      · rw [if_neg h1, if_neg (by omega)]
theorem ptX {V : Vs} {E : mE} {d : Nat → Value} {k m f : Nat} {v : Value} (hk : k ≤ 4) : ∀ r' q', XV V E (updV d f v) k m r' q' = vs (XV V E d k m) 11 0 (updV (XV V E d k m 11 0) f v) r' q' := by
  intro r' q'
  by_cases h : r' = 11 ∧ q' = 0
  · obtain ⟨rfl, rfl⟩ := h
    rw [vs_at, XV_0 hk, XV_0 hk]
  · rw [vs_ne _ _ h]
    unfold XV
    rw [if_neg h, if_neg h]
theorem arX {V : Vs} {E : mE} {d : Nat → Value} {L : Nat → Nat → Prop} {k : Nat} (hk : k ≤ 4) : ∀ r' q', XL L k 2 r' q' → (XL L k 1 r' q' ∨ (r' = 11 ∧ q' = 1)) ∧ XV V E d k 0 r' q' = vs (XV V E d k 0) 11 1 (fun _ => .null) r' q' := by
  intro r' q' h
  refine ⟨?_, ?_⟩
  · rcases h with h | h | ⟨h1, h2, h3⟩
    · exact Or.inl (Or.inl h)
    · exact Or.inl (Or.inr (Or.inl h))
    · exact Or.inr ⟨h1, by omega⟩
  · by_cases h : r' = 11 ∧ q' = 1
    · obtain ⟨rfl, rfl⟩ := h
      rw [vs_at, XV_1 hk]
      funext i
      exact if_neg (by omega)
    · rw [vs_ne _ _ h]
theorem asX {V : Vs} {E : mE} {d : Nat → Value} {k m : Nat} (hk : k ≤ 4) : ∀ r' q', XV V E d k (m + 1) r' q' = vs (XV V E d k m) 11 1 (updV (XV V E d k m 11 1) m (.ref (ea E (2 + m) 0))) r' q' := by
  intro r' q'
  by_cases h : r' = 11 ∧ q' = 1
  · obtain ⟨rfl, rfl⟩ := h
    rw [vs_at, XV_1 hk, XV_1 hk]
    funext i
    by_cases hi : i = m
    · subst hi
      rw [updV_at, if_pos (by omega)]
    · simp only [updV, if_neg hi]
      by_cases h2 : i < m
      · rw [if_pos h2, if_pos (by omega)]
      · rw [if_neg h2, if_neg (by omega)]
  · rw [vs_ne _ _ h]
    unfold XV
    rw [if_neg h, if_neg h]
end
section
/-! class InterruptInn's constructor, walked -/
abbrev DX (E : mE) (d : Nat → Value) : Nat → Value := updV (updV (updV d 0 (.ref (ea E 0 0))) 1 (.ref (ea E 1 0))) 2 (.ref (ea E 11 1))
abbrev VcX (E : mE) (V : Vs) : Vs := vs (vs (XV V E (DX E (V 11 0)) 4 2) 11 2 (fun _ => .int 0)) 11 0 (updV (vs (XV V E (DX E (V 11 0)) 4 2) 11 2 (fun _ => .int 0) 11 0) 3 (.ref (ea E 11 2)))
abbrev VdX (E : mE) (V : Vs) : Vs := vs (VcX E V) 11 3 (fun k => defaultValue (tyX0 k))
abbrev VeX (E : mE) (V : Vs) : Vs := HSt (VdX E V) E (updV (VdX E V 11 3) 0 (.ref (ea E 11 4))) 7
abbrev VfX (E : mE) (V : Vs) : Vs := vs (VeX E V) 11 0 (updV (VeX E V 11 0) 4 (.ref (ea E 11 3)))
abbrev VgX (E : mE) (V : Vs) : Vs := vs (VfX E V) 11 5 (fun k => defaultValue (tyX2 k))
abbrev VhX (E : mE) (V : Vs) : Vs := vs (vs (VgX E V) 11 6 (fun _ => .int 0)) 11 5 (updV (VgX E V 11 5) 0 (.ref (ea E 11 6)))
abbrev ViX (E : mE) (V : Vs) : Vs := vs (VhX E V) 11 0 (updV (VhX E V 11 0) 5 (.ref (ea E 11 5)))
abbrev LiX (L : Nat → Nat → Prop) : Nat → Nat → Prop := fun r' q' => (fun r' q' => LHt (fun r' q' => (fun r' q' => XL L 4 2 r' q' ∨ (r' = 11 ∧ q' = 2)) r' q' ∨ (r' = 11 ∧ q' = 3)) 7 r' q' ∨ (r' = 11 ∧ q' = 5)) r' q' ∨ (r' = 11 ∧ q' = 6)
end
section
/-! from cells laid to the heap as numbers -/
theorem arrV_cg {cA : ClassId} {n : Nat} {f g : Nat → Value} (h : ∀ k, k < n → f k = g k) : arrV cA n f = arrV cA n g := by
  unfold arrV
  congr 1
  apply Array.ext
  · simp
  · intro i h1 h2
    simp at h1
    simpa using h i (by omega)
theorem cellV.congr {E : mE} {f g : Nat → Value} {H : Heap} {r p : Nat} (h : cellV E f H r p) (hfg : ∀ k, k < (kd r p).2 → f k = g k) (hN : ∀ q, (kd r p).1 < 10 → kcl[(kd r p).1]? = some q → q.2.2 = (kd r p).2) : cellV E g H r p := by
  unfold cellV at h ⊢
  split
  · next h2 =>
    rw [if_pos h2] at h
    obtain ⟨q, g1, g2⟩ := h
    exact ⟨q, g1, g2.to fun k hk => hfg k (by rw [← hN q h2 g1]; exact hk)⟩
  · next h2 =>
    rw [if_neg h2] at h
    unfold arA at h ⊢
    rw [← arrV_cg hfg]
    exact h
theorem kdN {E : mE} {r p : Nat} (h : live E r p) : ∀ q, (kd r p).1 < 10 → kcl[(kd r p).1]? = some q → q.2.2 = (kd r p).2 := by
  unfold kd
  repeat' split
  all_goals first | (intro q h1; exact absurd h1 (by decide)) | (intro q _ h2; cases h2; rfl)
end
section
theorem zz_end : True := trivial
end
