section
-- ===== PART A: goes FIRST, ahead of the names: the tables' words, and 'selects' of the private methods out of them =====
/-- a private method of a class that the tables say can be made, by its rows of tables_1 -/
def lw_okq (q : MethodName × Nat) : Prop := (q.1.cls ≠ "java/lang/invoke/MethodHandle" ∧ q.1.cls ≠ "java/lang/invoke/VarHandle") ∧ Cond.instantiable q.1.cls q.2 ∈ tables_1 ∧ Cond.privateMethod q.1 ∈ tables_1 ∧ Cond.instanceMethod q.1 ∈ tables_1
theorem lw_p0 : lw_okq (⟨"InterruptInn", "obey", "(II)I"⟩, 6) := ⟨⟨by decide +kernel, by decide +kernel⟩, List.mem_of_getElem? (i := 11) (by decide +kernel), List.mem_of_getElem? (i := 582) (by decide +kernel), List.mem_of_getElem? (i := 583) (by decide +kernel)⟩
theorem lw_p1 : lw_okq (⟨"InterruptInnModel", "record", "()V"⟩, 13) := ⟨⟨by decide +kernel, by decide +kernel⟩, List.mem_of_getElem? (i := 607) (by decide +kernel), List.mem_of_getElem? (i := 666) (by decide +kernel), List.mem_of_getElem? (i := 667) (by decide +kernel)⟩
theorem lw_p2 : lw_okq (⟨"InterruptInnModel", "isLine", "(I)Z"⟩, 13) := ⟨⟨by decide +kernel, by decide +kernel⟩, List.mem_of_getElem? (i := 607) (by decide +kernel), List.mem_of_getElem? (i := 681) (by decide +kernel), List.mem_of_getElem? (i := 682) (by decide +kernel)⟩
theorem lw_p3 : lw_okq (⟨"InterruptInnModel", "of", "(II)I"⟩, 13) := ⟨⟨by decide +kernel, by decide +kernel⟩, List.mem_of_getElem? (i := 607) (by decide +kernel), List.mem_of_getElem? (i := 685) (by decide +kernel), List.mem_of_getElem? (i := 686) (by decide +kernel)⟩
theorem lw_p4 : lw_okq (⟨"InterruptInnModel", "edge", "(I)Z"⟩, 13) := ⟨⟨by decide +kernel, by decide +kernel⟩, List.mem_of_getElem? (i := 607) (by decide +kernel), List.mem_of_getElem? (i := 697) (by decide +kernel), List.mem_of_getElem? (i := 698) (by decide +kernel)⟩
theorem lw_p5 : lw_okq (⟨"InterruptInnModel", "book", "(IIIZ)V"⟩, 13) := ⟨⟨by decide +kernel, by decide +kernel⟩, List.mem_of_getElem? (i := 607) (by decide +kernel), List.mem_of_getElem? (i := 701) (by decide +kernel), List.mem_of_getElem? (i := 702) (by decide +kernel)⟩
theorem lw_p6 : lw_okq (⟨"InterruptInnModel", "waits", "(I)Z"⟩, 13) := ⟨⟨by decide +kernel, by decide +kernel⟩, List.mem_of_getElem? (i := 607) (by decide +kernel), List.mem_of_getElem? (i := 705) (by decide +kernel), List.mem_of_getElem? (i := 706) (by decide +kernel)⟩
theorem lw_p7 : lw_okq (⟨"InterruptInnModel", "turn", "(II)V"⟩, 13) := ⟨⟨by decide +kernel, by decide +kernel⟩, List.mem_of_getElem? (i := 607) (by decide +kernel), List.mem_of_getElem? (i := 709) (by decide +kernel), List.mem_of_getElem? (i := 710) (by decide +kernel)⟩
theorem lw_p8 : lw_okq (⟨"InterruptInnModel", "look", "(I)V"⟩, 13) := ⟨⟨by decide +kernel, by decide +kernel⟩, List.mem_of_getElem? (i := 607) (by decide +kernel), List.mem_of_getElem? (i := 717) (by decide +kernel), List.mem_of_getElem? (i := 718) (by decide +kernel)⟩
theorem lw_p9 : lw_okq (⟨"InterruptInnModel", "placeOf", "(I)I"⟩, 13) := ⟨⟨by decide +kernel, by decide +kernel⟩, List.mem_of_getElem? (i := 607) (by decide +kernel), List.mem_of_getElem? (i := 721) (by decide +kernel), List.mem_of_getElem? (i := 722) (by decide +kernel)⟩
theorem lw_p10 : lw_okq (⟨"InterruptInnModel", "pass", "()V"⟩, 13) := ⟨⟨by decide +kernel, by decide +kernel⟩, List.mem_of_getElem? (i := 607) (by decide +kernel), List.mem_of_getElem? (i := 737) (by decide +kernel), List.mem_of_getElem? (i := 738) (by decide +kernel)⟩
theorem lw_p11 : lw_okq (⟨"InterruptInnModel", "found", "()I"⟩, 13) := ⟨⟨by decide +kernel, by decide +kernel⟩, List.mem_of_getElem? (i := 607) (by decide +kernel), List.mem_of_getElem? (i := 741) (by decide +kernel), List.mem_of_getElem? (i := 742) (by decide +kernel)⟩
theorem lw_p12 : lw_okq (⟨"InterruptInnModel", "present", "(I)I"⟩, 13) := ⟨⟨by decide +kernel, by decide +kernel⟩, List.mem_of_getElem? (i := 607) (by decide +kernel), List.mem_of_getElem? (i := 745) (by decide +kernel), List.mem_of_getElem? (i := 746) (by decide +kernel)⟩
theorem lw_p13 : lw_okq (⟨"InterruptInnModel", "begin", "(I)V"⟩, 13) := ⟨⟨by decide +kernel, by decide +kernel⟩, List.mem_of_getElem? (i := 607) (by decide +kernel), List.mem_of_getElem? (i := 749) (by decide +kernel), List.mem_of_getElem? (i := 750) (by decide +kernel)⟩
theorem lw_p14 : lw_okq (⟨"InterruptInnModel", "end", "(I)V"⟩, 13) := ⟨⟨by decide +kernel, by decide +kernel⟩, List.mem_of_getElem? (i := 607) (by decide +kernel), List.mem_of_getElem? (i := 753) (by decide +kernel), List.mem_of_getElem? (i := 754) (by decide +kernel)⟩
theorem lw_p15 : lw_okq (⟨"InterruptInnModel", "waiting", "()I"⟩, 13) := ⟨⟨by decide +kernel, by decide +kernel⟩, List.mem_of_getElem? (i := 607) (by decide +kernel), List.mem_of_getElem? (i := 773) (by decide +kernel), List.mem_of_getElem? (i := 774) (by decide +kernel)⟩
def lw_privs_1 : List (MethodName × Nat) := [(⟨"InterruptInn", "obey", "(II)I"⟩, 6), (⟨"InterruptInnModel", "record", "()V"⟩, 13), (⟨"InterruptInnModel", "isLine", "(I)Z"⟩, 13), (⟨"InterruptInnModel", "of", "(II)I"⟩, 13), (⟨"InterruptInnModel", "edge", "(I)Z"⟩, 13), (⟨"InterruptInnModel", "book", "(IIIZ)V"⟩, 13), (⟨"InterruptInnModel", "waits", "(I)Z"⟩, 13), (⟨"InterruptInnModel", "turn", "(II)V"⟩, 13), (⟨"InterruptInnModel", "look", "(I)V"⟩, 13), (⟨"InterruptInnModel", "placeOf", "(I)I"⟩, 13), (⟨"InterruptInnModel", "pass", "()V"⟩, 13), (⟨"InterruptInnModel", "found", "()I"⟩, 13), (⟨"InterruptInnModel", "present", "(I)I"⟩, 13), (⟨"InterruptInnModel", "begin", "(I)V"⟩, 13), (⟨"InterruptInnModel", "end", "(I)V"⟩, 13), (⟨"InterruptInnModel", "waiting", "()I"⟩, 13)]
theorem lw_r1 : ∀ q ∈ lw_privs_1, lw_okq q := List.forall_mem_cons.mpr ⟨lw_p0, List.forall_mem_cons.mpr ⟨lw_p1, List.forall_mem_cons.mpr ⟨lw_p2, List.forall_mem_cons.mpr ⟨lw_p3, List.forall_mem_cons.mpr ⟨lw_p4, List.forall_mem_cons.mpr ⟨lw_p5, List.forall_mem_cons.mpr ⟨lw_p6, List.forall_mem_cons.mpr ⟨lw_p7, List.forall_mem_cons.mpr ⟨lw_p8, List.forall_mem_cons.mpr ⟨lw_p9, List.forall_mem_cons.mpr ⟨lw_p10, List.forall_mem_cons.mpr ⟨lw_p11, List.forall_mem_cons.mpr ⟨lw_p12, List.forall_mem_cons.mpr ⟨lw_p13, List.forall_mem_cons.mpr ⟨lw_p14, List.forall_mem_cons.mpr ⟨lw_p15, fun _ h => absurd h List.not_mem_nil⟩⟩⟩⟩⟩⟩⟩⟩⟩⟩⟩⟩⟩⟩⟩⟩
theorem lw_p16 : lw_okq (⟨"InterruptInnModel", "misses", "()I"⟩, 13) := ⟨⟨by decide +kernel, by decide +kernel⟩, List.mem_of_getElem? (i := 607) (by decide +kernel), List.mem_of_getElem? (i := 777) (by decide +kernel), List.mem_of_getElem? (i := 778) (by decide +kernel)⟩
theorem lw_p17 : lw_okq (⟨"InterruptInnModel", "keep", "()V"⟩, 13) := ⟨⟨by decide +kernel, by decide +kernel⟩, List.mem_of_getElem? (i := 607) (by decide +kernel), List.mem_of_getElem? (i := 785) (by decide +kernel), List.mem_of_getElem? (i := 786) (by decide +kernel)⟩
theorem lw_p18 : lw_okq (⟨"InterruptInnModel", "beginsWithin", "(II)I"⟩, 13) := ⟨⟨by decide +kernel, by decide +kernel⟩, List.mem_of_getElem? (i := 607) (by decide +kernel), List.mem_of_getElem? (i := 789) (by decide +kernel), List.mem_of_getElem? (i := 790) (by decide +kernel)⟩
theorem lw_p19 : lw_okq (⟨"InterruptInnModel", "comeBack", "()V"⟩, 13) := ⟨⟨by decide +kernel, by decide +kernel⟩, List.mem_of_getElem? (i := 607) (by decide +kernel), List.mem_of_getElem? (i := 793) (by decide +kernel), List.mem_of_getElem? (i := 794) (by decide +kernel)⟩
theorem lw_p20 : lw_okq (⟨"InterruptInnModel", "costOf", "(I)I"⟩, 13) := ⟨⟨by decide +kernel, by decide +kernel⟩, List.mem_of_getElem? (i := 607) (by decide +kernel), List.mem_of_getElem? (i := 813) (by decide +kernel), List.mem_of_getElem? (i := 814) (by decide +kernel)⟩
theorem lw_p21 : lw_okq (⟨"InterruptInnModel", "faultOf", "()I"⟩, 13) := ⟨⟨by decide +kernel, by decide +kernel⟩, List.mem_of_getElem? (i := 607) (by decide +kernel), List.mem_of_getElem? (i := 834) (by decide +kernel), List.mem_of_getElem? (i := 835) (by decide +kernel)⟩
theorem lw_p22 : lw_okq (⟨"InterruptInnModel", "readOne", "()V"⟩, 13) := ⟨⟨by decide +kernel, by decide +kernel⟩, List.mem_of_getElem? (i := 607) (by decide +kernel), List.mem_of_getElem? (i := 838) (by decide +kernel), List.mem_of_getElem? (i := 839) (by decide +kernel)⟩
theorem lw_p23 : lw_okq (⟨"InterruptInnModel", "sign", "()I"⟩, 13) := ⟨⟨by decide +kernel, by decide +kernel⟩, List.mem_of_getElem? (i := 607) (by decide +kernel), List.mem_of_getElem? (i := 842) (by decide +kernel), List.mem_of_getElem? (i := 843) (by decide +kernel)⟩
theorem lw_p24 : lw_okq (⟨"InterruptInnModel", "number", "()I"⟩, 13) := ⟨⟨by decide +kernel, by decide +kernel⟩, List.mem_of_getElem? (i := 607) (by decide +kernel), List.mem_of_getElem? (i := 846) (by decide +kernel), List.mem_of_getElem? (i := 847) (by decide +kernel)⟩
theorem lw_p25 : lw_okq (⟨"InterruptInnModel", "one", "(II)I"⟩, 13) := ⟨⟨by decide +kernel, by decide +kernel⟩, List.mem_of_getElem? (i := 607) (by decide +kernel), List.mem_of_getElem? (i := 850) (by decide +kernel), List.mem_of_getElem? (i := 851) (by decide +kernel)⟩
theorem lw_p26 : lw_okq (⟨"InterruptInnModel", "carry", "(I)I"⟩, 13) := ⟨⟨by decide +kernel, by decide +kernel⟩, List.mem_of_getElem? (i := 607) (by decide +kernel), List.mem_of_getElem? (i := 858) (by decide +kernel), List.mem_of_getElem? (i := 859) (by decide +kernel)⟩
def lw_privs_2 : List (MethodName × Nat) := [(⟨"InterruptInnModel", "misses", "()I"⟩, 13), (⟨"InterruptInnModel", "keep", "()V"⟩, 13), (⟨"InterruptInnModel", "beginsWithin", "(II)I"⟩, 13), (⟨"InterruptInnModel", "comeBack", "()V"⟩, 13), (⟨"InterruptInnModel", "costOf", "(I)I"⟩, 13), (⟨"InterruptInnModel", "faultOf", "()I"⟩, 13), (⟨"InterruptInnModel", "readOne", "()V"⟩, 13), (⟨"InterruptInnModel", "sign", "()I"⟩, 13), (⟨"InterruptInnModel", "number", "()I"⟩, 13), (⟨"InterruptInnModel", "one", "(II)I"⟩, 13), (⟨"InterruptInnModel", "carry", "(I)I"⟩, 13)]
theorem lw_r2 : ∀ q ∈ lw_privs_2, lw_okq q := List.forall_mem_cons.mpr ⟨lw_p16, List.forall_mem_cons.mpr ⟨lw_p17, List.forall_mem_cons.mpr ⟨lw_p18, List.forall_mem_cons.mpr ⟨lw_p19, List.forall_mem_cons.mpr ⟨lw_p20, List.forall_mem_cons.mpr ⟨lw_p21, List.forall_mem_cons.mpr ⟨lw_p22, List.forall_mem_cons.mpr ⟨lw_p23, List.forall_mem_cons.mpr ⟨lw_p24, List.forall_mem_cons.mpr ⟨lw_p25, List.forall_mem_cons.mpr ⟨lw_p26, fun _ h => absurd h List.not_mem_nil⟩⟩⟩⟩⟩⟩⟩⟩⟩⟩⟩
def lw_privs : List (MethodName × Nat) := lw_privs_1 ++ (lw_privs_2)
def lw_tbl : List Cond := k2_sels lw_privs ++ tables_1
theorem lw_privs_ok : ∀ q ∈ lw_privs, lw_okq q := by
  show ∀ q ∈ lw_privs_1 ++ (lw_privs_2), lw_okq q
  exact List.forall_mem_append.mpr ⟨lw_r1, lw_r2⟩
end
section
-- names, printed by the check's program (claim/NAMES.whole.lean.txt): classes, fields, methods
def RX0 : String := "InterruptInn$History"
def TX0 : u_T := fun k => match k with
  | 0 => ("InterruptInn$History", "states", "[LInterruptInn$Server;", true)
  | 1 => ("InterruptInn$History", "next", "I", false)
  | _ => ("InterruptInn$History", "size", "I", false)
def tyX0 : Nat → FieldType := fun k => match k with
  | 0 => .array (.object "InterruptInn$Server")
  | 1 => .int
  | _ => .int
abbrev wsX00 : List Cond := u_ws RX0 TX0 3
theorem nmX0 : ∀ a, a < 3 → ∀ b, b < 3 → a ≠ b → (TX0 a).2.1 ≠ (TX0 b).2.1 := by decide +kernel
theorem tyX0_ok : ∀ k, k < 3 → parseFieldDescriptor (TX0 k).2.2.1 = some (tyX0 k) := by decide +kernel
abbrev cX0_init : ByteArray := prog_2_method_1_code
def yX0_init : MethodName := ⟨RX0, "<init>", "()V"⟩
abbrev cX0_prepare : ByteArray := prog_2_method_2_code
def yX0_prepare : MethodName := ⟨RX0, "prepare", "(LInterruptInn$Server;)V"⟩
abbrev cX0_recordUnlessError : ByteArray := prog_2_method_3_code
def yX0_recordUnlessError : MethodName := ⟨RX0, "recordUnlessError", "(I)I"⟩
abbrev cX0_takeBack : ByteArray := prog_2_method_4_code
def yX0_takeBack : MethodName := ⟨RX0, "takeBack", "(LInterruptInn$Server;)I"⟩
def RX1 : String := "InterruptInn$Line"
def TX1 : u_T := fun k => match k with
  | 0 => ("InterruptInn$Line", "rank", "I", false)
  | 1 => ("InterruptInn$Line", "need", "I", false)
  | 2 => ("InterruptInn$Line", "deadline", "I", false)
  | 3 => ("InterruptInn$Line", "level", "Z", false)
  | 4 => ("InterruptInn$Line", "masked", "Z", false)
  | 5 => ("InterruptInn$Line", "waits", "Z", false)
  | 6 => ("InterruptInn$Line", "waited", "I", false)
  | 7 => ("InterruptInn$Line", "place", "I", false)
  | 8 => ("InterruptInn$Line", "devices", "I", false)
  | 9 => ("InterruptInn$Line", "came", "I", false)
  | 10 => ("InterruptInn$Line", "lost", "I", false)
  | 11 => ("InterruptInn$Line", "began", "I", false)
  | 12 => ("InterruptInn$Line", "ended", "I", false)
  | 13 => ("InterruptInn$Line", "longestWait", "I", false)
  | 14 => ("InterruptInn$Line", "allWaits", "I", false)
  | _ => ("InterruptInn$Line", "misses", "I", false)
def tyX1 : Nat → FieldType := fun k => match k with
  | 0 => .int
  | 1 => .int
  | 2 => .int
  | 3 => .boolean
  | 4 => .boolean
  | 5 => .boolean
  | 6 => .int
  | 7 => .int
  | 8 => .int
  | 9 => .int
  | 10 => .int
  | 11 => .int
  | 12 => .int
  | 13 => .int
  | 14 => .int
  | _ => .int
abbrev wsX10 : List Cond := u_ws RX1 TX1 16
theorem nmX1 : ∀ a, a < 16 → ∀ b, b < 16 → a ≠ b → (TX1 a).2.1 ≠ (TX1 b).2.1 := by decide +kernel
theorem tyX1_ok : ∀ k, k < 16 → parseFieldDescriptor (TX1 k).2.2.1 = some (tyX1 k) := by decide +kernel
abbrev cX1_init : ByteArray := prog_3_method_1_code
def yX1_init : MethodName := ⟨RX1, "<init>", "()V"⟩
abbrev cX1_becomeNew : ByteArray := prog_3_method_2_code
def yX1_becomeNew : MethodName := ⟨RX1, "becomeNew", "(Z)V"⟩
abbrev cX1_shape : ByteArray := prog_3_method_3_code
def yX1_shape : MethodName := ⟨RX1, "shape", "(III)V"⟩
abbrev cX1_copyFrom : ByteArray := prog_3_method_4_code
def yX1_copyFrom : MethodName := ⟨RX1, "copyFrom", "(LInterruptInn$Line;)V"⟩
abbrev cX1_presentRank : ByteArray := prog_3_method_5_code
def yX1_presentRank : MethodName := ⟨RX1, "presentRank", "(II)I"⟩
abbrev cX1_mayBegin : ByteArray := prog_3_method_6_code
def yX1_mayBegin : MethodName := ⟨RX1, "mayBegin", "()Z"⟩
abbrev cX1_takeEdge : ByteArray := prog_3_method_7_code
def yX1_takeEdge : MethodName := ⟨RX1, "takeEdge", "(Z)Z"⟩
abbrev cX1_moveDevice : ByteArray := prog_3_method_8_code
def yX1_moveDevice : MethodName := ⟨RX1, "moveDevice", "(IZ)V"⟩
abbrev cX1_followDevices : ByteArray := prog_3_method_9_code
def yX1_followDevices : MethodName := ⟨RX1, "followDevices", "()V"⟩
abbrev cX1_enterNest : ByteArray := prog_3_method_10_code
def yX1_enterNest : MethodName := ⟨RX1, "enterNest", "(I)V"⟩
abbrev cX1_leaveNest : ByteArray := prog_3_method_11_code
def yX1_leaveNest : MethodName := ⟨RX1, "leaveNest", "()V"⟩
abbrev cX1_number : ByteArray := prog_3_method_12_code
def yX1_number : MethodName := ⟨RX1, "number", "(III)I"⟩
def RX2 : String := "InterruptInn$Pad"
def TX2 : u_T := fun k => match k with
  | 0 => ("InterruptInn$Pad", "signs", "[C", true)
  | _ => ("InterruptInn$Pad", "length", "I", false)
def tyX2 : Nat → FieldType := fun k => match k with
  | 0 => .array .char
  | _ => .int
abbrev wsX20 : List Cond := u_ws RX2 TX2 2
theorem nmX2 : ∀ a, a < 2 → ∀ b, b < 2 → a ≠ b → (TX2 a).2.1 ≠ (TX2 b).2.1 := by decide +kernel
theorem tyX2_ok : ∀ k, k < 2 → parseFieldDescriptor (TX2 k).2.2.1 = some (tyX2 k) := by decide +kernel
abbrev cX2_init : ByteArray := prog_4_method_1_code
def yX2_init : MethodName := ⟨RX2, "<init>", "()V"⟩
abbrev cX2_append : ByteArray := prog_4_method_2_code
def yX2_append : MethodName := ⟨RX2, "append", "(J)I"⟩
abbrev cX2_lengthOf : ByteArray := prog_4_method_3_code
def yX2_lengthOf : MethodName := ⟨RX2, "lengthOf", "(J)I"⟩
abbrev cX2_clear : ByteArray := prog_4_method_4_code
def yX2_clear : MethodName := ⟨RX2, "clear", "()I"⟩
abbrev cX2_firstFault : ByteArray := prog_4_method_5_code
def yX2_firstFault : MethodName := ⟨RX2, "firstFault", "()I"⟩
abbrev cX2_mayEnd : ByteArray := prog_4_method_6_code
def yX2_mayEnd : MethodName := ⟨RX2, "mayEnd", "(I)Z"⟩
abbrev cX2_dueAfter : ByteArray := prog_4_method_7_code
def yX2_dueAfter : MethodName := ⟨RX2, "dueAfter", "(IC)I"⟩
abbrev cX2_dueAfterOrder : ByteArray := prog_4_method_8_code
def yX2_dueAfterOrder : MethodName := ⟨RX2, "dueAfterOrder", "(C)I"⟩
abbrev cX2_dueAfterDigit : ByteArray := prog_4_method_9_code
def yX2_dueAfterDigit : MethodName := ⟨RX2, "dueAfterDigit", "(CI)I"⟩
abbrev cX2_signAt : ByteArray := prog_4_method_10_code
def yX2_signAt : MethodName := ⟨RX2, "signAt", "(I)C"⟩
abbrev cX2_orderEndsAt : ByteArray := prog_4_method_11_code
def yX2_orderEndsAt : MethodName := ⟨RX2, "orderEndsAt", "(I)Z"⟩
abbrev cX2_numberBetween : ByteArray := prog_4_method_12_code
def yX2_numberBetween : MethodName := ⟨RX2, "numberBetween", "(II)I"⟩
def RX3 : String := "InterruptInn$Server"
def TX3 : u_T := fun k => match k with
  | 0 => ("InterruptInn$Server", "tick", "I", false)
  | 1 => ("InterruptInn$Server", "settings", "[I", true)
  | 2 => ("InterruptInn$Server", "lines", "[LInterruptInn$Line;", true)
  | 3 => ("InterruptInn$Server", "lineCount", "I", false)
  | 4 => ("InterruptInn$Server", "timers", "[LInterruptInn$Timer;", true)
  | 5 => ("InterruptInn$Server", "timerCount", "I", false)
  | 6 => ("InterruptInn$Server", "nest", "[LInterruptInn$Service;", true)
  | 7 => ("InterruptInn$Server", "depth", "I", false)
  | 8 => ("InterruptInn$Server", "servedTicks", "I", false)
  | 9 => ("InterruptInn$Server", "deepestSoFar", "I", false)
  | _ => ("InterruptInn$Server", "interruptions", "I", false)
def tyX3 : Nat → FieldType := fun k => match k with
  | 0 => .int
  | 1 => .array .int
  | 2 => .array (.object "InterruptInn$Line")
  | 3 => .int
  | 4 => .array (.object "InterruptInn$Timer")
  | 5 => .int
  | 6 => .array (.object "InterruptInn$Service")
  | 7 => .int
  | 8 => .int
  | 9 => .int
  | _ => .int
abbrev wsX30 : List Cond := u_ws RX3 TX3 11
theorem nmX3 : ∀ a, a < 11 → ∀ b, b < 11 → a ≠ b → (TX3 a).2.1 ≠ (TX3 b).2.1 := by decide +kernel
theorem tyX3_ok : ∀ k, k < 11 → parseFieldDescriptor (TX3 k).2.2.1 = some (tyX3 k) := by decide +kernel
abbrev cX3_init : ByteArray := prog_5_method_1_code
def yX3_init : MethodName := ⟨RX3, "<init>", "()V"⟩
abbrev cX3_copyFrom : ByteArray := prog_5_method_2_code
def yX3_copyFrom : MethodName := ⟨RX3, "copyFrom", "(LInterruptInn$Server;)V"⟩
abbrev cX3_hasLine : ByteArray := prog_5_method_3_code
def yX3_hasLine : MethodName := ⟨RX3, "hasLine", "(I)Z"⟩
abbrev cX3_hasTimer : ByteArray := prog_5_method_4_code
def yX3_hasTimer : MethodName := ⟨RX3, "hasTimer", "(I)Z"⟩
abbrev cX3_changeSetting : ByteArray := prog_5_method_5_code
def yX3_changeSetting : MethodName := ⟨RX3, "changeSetting", "(II)I"⟩
abbrev cX3_addLine : ByteArray := prog_5_method_6_code
def yX3_addLine : MethodName := ⟨RX3, "addLine", "(IIII)I"⟩
abbrev cX3_changeLine : ByteArray := prog_5_method_7_code
def yX3_changeLine : MethodName := ⟨RX3, "changeLine", "(IIII)I"⟩
abbrev cX3_isShape : ByteArray := prog_5_method_8_code
def yX3_isShape : MethodName := ⟨RX3, "isShape", "(III)Z"⟩
abbrev cX3_addTimer : ByteArray := prog_5_method_9_code
def yX3_addTimer : MethodName := ⟨RX3, "addTimer", "(III)I"⟩
abbrev cX3_removeTimer : ByteArray := prog_5_method_10_code
def yX3_removeTimer : MethodName := ⟨RX3, "removeTimer", "(I)I"⟩
abbrev cX3_raiseLine : ByteArray := prog_5_method_11_code
def yX3_raiseLine : MethodName := ⟨RX3, "raiseLine", "(I)I"⟩
abbrev cX3_holdLine : ByteArray := prog_5_method_12_code
def yX3_holdLine : MethodName := ⟨RX3, "holdLine", "(III)I"⟩
abbrev cX3_maskLine : ByteArray := prog_5_method_13_code
def yX3_maskLine : MethodName := ⟨RX3, "maskLine", "(II)I"⟩
abbrev cX3_passTicks : ByteArray := prog_5_method_14_code
def yX3_passTicks : MethodName := ⟨RX3, "passTicks", "(I)I"⟩
abbrev cX3_passTick : ByteArray := prog_5_method_15_code
def yX3_passTick : MethodName := ⟨RX3, "passTick", "()I"⟩
abbrev cX3_raiseByTimers : ByteArray := prog_5_method_16_code
def yX3_raiseByTimers : MethodName := ⟨RX3, "raiseByTimers", "()V"⟩
abbrev cX3_foundLine : ByteArray := prog_5_method_17_code
def yX3_foundLine : MethodName := ⟨RX3, "foundLine", "()I"⟩
abbrev cX3_beginFoundLine : ByteArray := prog_5_method_18_code
def yX3_beginFoundLine : MethodName := ⟨RX3, "beginFoundLine", "()I"⟩
abbrev cX3_nestTakes : ByteArray := prog_5_method_19_code
def yX3_nestTakes : MethodName := ⟨RX3, "nestTakes", "(I)Z"⟩
abbrev cX3_serveTop : ByteArray := prog_5_method_20_code
def yX3_serveTop : MethodName := ⟨RX3, "serveTop", "()V"⟩
abbrev cX3_growWaits : ByteArray := prog_5_method_21_code
def yX3_growWaits : MethodName := ⟨RX3, "growWaits", "()V"⟩
abbrev cX3_numberOfLine : ByteArray := prog_5_method_22_code
def yX3_numberOfLine : MethodName := ⟨RX3, "numberOfLine", "(II)I"⟩
abbrev cX3_numberOfPlace : ByteArray := prog_5_method_23_code
def yX3_numberOfPlace : MethodName := ⟨RX3, "numberOfPlace", "(II)I"⟩
abbrev cX3_numberOfTimer : ByteArray := prog_5_method_24_code
def yX3_numberOfTimer : MethodName := ⟨RX3, "numberOfTimer", "(II)I"⟩
abbrev cX3_numberOfAll : ByteArray := prog_5_method_25_code
def yX3_numberOfAll : MethodName := ⟨RX3, "numberOfAll", "(I)I"⟩
abbrev cX3_waitingLines : ByteArray := prog_5_method_26_code
def yX3_waitingLines : MethodName := ⟨RX3, "waitingLines", "()I"⟩
abbrev cX3_missesOfAll : ByteArray := prog_5_method_27_code
def yX3_missesOfAll : MethodName := ⟨RX3, "missesOfAll", "()I"⟩
abbrev cX3_ticksUntilBegin : ByteArray := prog_5_method_28_code
def yX3_ticksUntilBegin : MethodName := ⟨RX3, "ticksUntilBegin", "(II)I"⟩
abbrev cX3_ticksUntilIdle : ByteArray := prog_5_method_29_code
def yX3_ticksUntilIdle : MethodName := ⟨RX3, "ticksUntilIdle", "(I)I"⟩
abbrev cX3_costOf : ByteArray := prog_5_method_30_code
def yX3_costOf : MethodName := ⟨RX3, "costOf", "(I)I"⟩
abbrev cX3_leastBound : ByteArray := prog_5_method_31_code
def yX3_leastBound : MethodName := ⟨RX3, "leastBound", "(I)I"⟩
abbrev cX3_greatestCostBelow : ByteArray := prog_5_method_32_code
def yX3_greatestCostBelow : MethodName := ⟨RX3, "greatestCostBelow", "(I)I"⟩
abbrev cX3_costOfRivals : ByteArray := prog_5_method_33_code
def yX3_costOfRivals : MethodName := ⟨RX3, "costOfRivals", "(II)I"⟩
abbrev cX3_loadOfTimers : ByteArray := prog_5_method_34_code
def yX3_loadOfTimers : MethodName := ⟨RX3, "loadOfTimers", "()I"⟩
def RX4 : String := "InterruptInn$Service"
def TX4 : u_T := fun k => match k with
  | 0 => ("InterruptInn$Service", "line", "I", false)
  | 1 => ("InterruptInn$Service", "rank", "I", false)
  | 2 => ("InterruptInn$Service", "left", "I", false)
  | _ => ("InterruptInn$Service", "begun", "I", false)
def tyX4 : Nat → FieldType := fun k => match k with
  | 0 => .int
  | 1 => .int
  | 2 => .int
  | _ => .int
abbrev wsX40 : List Cond := u_ws RX4 TX4 4
theorem nmX4 : ∀ a, a < 4 → ∀ b, b < 4 → a ≠ b → (TX4 a).2.1 ≠ (TX4 b).2.1 := by decide +kernel
theorem tyX4_ok : ∀ k, k < 4 → parseFieldDescriptor (TX4 k).2.2.1 = some (tyX4 k) := by decide +kernel
abbrev cX4_init : ByteArray := prog_6_method_1_code
def yX4_init : MethodName := ⟨RX4, "<init>", "()V"⟩
abbrev cX4_copyFrom : ByteArray := prog_6_method_2_code
def yX4_copyFrom : MethodName := ⟨RX4, "copyFrom", "(LInterruptInn$Service;)V"⟩
abbrev cX4_number : ByteArray := prog_6_method_3_code
def yX4_number : MethodName := ⟨RX4, "number", "(I)I"⟩
def RX5 : String := "InterruptInn$Timer"
def TX5 : u_T := fun k => match k with
  | 0 => ("InterruptInn$Timer", "line", "I", false)
  | 1 => ("InterruptInn$Timer", "period", "I", false)
  | _ => ("InterruptInn$Timer", "next", "I", false)
def tyX5 : Nat → FieldType := fun k => match k with
  | 0 => .int
  | 1 => .int
  | _ => .int
abbrev wsX50 : List Cond := u_ws RX5 TX5 3
theorem nmX5 : ∀ a, a < 3 → ∀ b, b < 3 → a ≠ b → (TX5 a).2.1 ≠ (TX5 b).2.1 := by decide +kernel
theorem tyX5_ok : ∀ k, k < 3 → parseFieldDescriptor (TX5 k).2.2.1 = some (tyX5 k) := by decide +kernel
abbrev cX5_init : ByteArray := prog_7_method_1_code
def yX5_init : MethodName := ⟨RX5, "<init>", "()V"⟩
abbrev cX5_copyFrom : ByteArray := prog_7_method_2_code
def yX5_copyFrom : MethodName := ⟨RX5, "copyFrom", "(LInterruptInn$Timer;)V"⟩
abbrev cX5_number : ByteArray := prog_7_method_3_code
def yX5_number : MethodName := ⟨RX5, "number", "(I)I"⟩
def RX6 : String := "InterruptInn"
def TX6 : u_T := fun k => match k with
  | 0 => ("InterruptInn", "server", "LInterruptInn$Server;", true)
  | 1 => ("InterruptInn", "trial", "LInterruptInn$Server;", true)
  | 2 => ("InterruptInn", "slots", "[LInterruptInn$Server;", true)
  | 3 => ("InterruptInn", "saved", "[Z", true)
  | 4 => ("InterruptInn", "history", "LInterruptInn$History;", true)
  | _ => ("InterruptInn", "pad", "LInterruptInn$Pad;", true)
def tyX6 : Nat → FieldType := fun k => match k with
  | 0 => .object "InterruptInn$Server"
  | 1 => .object "InterruptInn$Server"
  | 2 => .array (.object "InterruptInn$Server")
  | 3 => .array .boolean
  | 4 => .object "InterruptInn$History"
  | _ => .object "InterruptInn$Pad"
abbrev wsX60 : List Cond := u_ws RX6 TX6 6
theorem nmX6 : ∀ a, a < 6 → ∀ b, b < 6 → a ≠ b → (TX6 a).2.1 ≠ (TX6 b).2.1 := by decide +kernel
theorem tyX6_ok : ∀ k, k < 6 → parseFieldDescriptor (TX6 k).2.2.1 = some (tyX6 k) := by decide +kernel
abbrev cX6_init : ByteArray := prog_1_method_1_code
def yX6_init : MethodName := ⟨RX6, "<init>", "()V"⟩
abbrev cX6_set : ByteArray := prog_1_method_2_code
def yX6_set : MethodName := ⟨RX6, "set", "(II)I"⟩
abbrev cX6_line : ByteArray := prog_1_method_3_code
def yX6_line : MethodName := ⟨RX6, "line", "(IIII)I"⟩
abbrev cX6_timer : ByteArray := prog_1_method_4_code
def yX6_timer : MethodName := ⟨RX6, "timer", "(III)I"⟩
abbrev cX6_stop : ByteArray := prog_1_method_5_code
def yX6_stop : MethodName := ⟨RX6, "stop", "(I)I"⟩
abbrev cX6_raise : ByteArray := prog_1_method_6_code
def yX6_raise : MethodName := ⟨RX6, "raise", "(I)I"⟩
abbrev cX6_hold : ByteArray := prog_1_method_7_code
def yX6_hold : MethodName := ⟨RX6, "hold", "(III)I"⟩
abbrev cX6_mask : ByteArray := prog_1_method_8_code
def yX6_mask : MethodName := ⟨RX6, "mask", "(II)I"⟩
abbrev cX6_change : ByteArray := prog_1_method_9_code
def yX6_change : MethodName := ⟨RX6, "change", "(IIII)I"⟩
abbrev cX6_ticks : ByteArray := prog_1_method_10_code
def yX6_ticks : MethodName := ⟨RX6, "ticks", "(I)I"⟩
abbrev cX6_ofLine : ByteArray := prog_1_method_11_code
def yX6_ofLine : MethodName := ⟨RX6, "ofLine", "(II)I"⟩
abbrev cX6_ofNest : ByteArray := prog_1_method_12_code
def yX6_ofNest : MethodName := ⟨RX6, "ofNest", "(II)I"⟩
abbrev cX6_ofTimer : ByteArray := prog_1_method_13_code
def yX6_ofTimer : MethodName := ⟨RX6, "ofTimer", "(II)I"⟩
abbrev cX6_count : ByteArray := prog_1_method_14_code
def yX6_count : MethodName := ⟨RX6, "count", "(I)I"⟩
abbrev cX6_beginsIn : ByteArray := prog_1_method_15_code
def yX6_beginsIn : MethodName := ⟨RX6, "beginsIn", "(I)I"⟩
abbrev cX6_idleIn : ByteArray := prog_1_method_16_code
def yX6_idleIn : MethodName := ⟨RX6, "idleIn", "()I"⟩
abbrev cX6_missesIn : ByteArray := prog_1_method_17_code
def yX6_missesIn : MethodName := ⟨RX6, "missesIn", "(I)I"⟩
abbrev cX6_greatestBar : ByteArray := prog_1_method_18_code
def yX6_greatestBar : MethodName := ⟨RX6, "greatestBar", "(II)I"⟩
abbrev cX6_bound : ByteArray := prog_1_method_19_code
def yX6_bound : MethodName := ⟨RX6, "bound", "(I)I"⟩
abbrev cX6_load : ByteArray := prog_1_method_20_code
def yX6_load : MethodName := ⟨RX6, "load", "()I"⟩
abbrev cX6_put : ByteArray := prog_1_method_21_code
def yX6_put : MethodName := ⟨RX6, "put", "(J)I"⟩
abbrev cX6_wipe : ByteArray := prog_1_method_22_code
def yX6_wipe : MethodName := ⟨RX6, "wipe", "()I"⟩
abbrev cX6_fault : ByteArray := prog_1_method_23_code
def yX6_fault : MethodName := ⟨RX6, "fault", "()I"⟩
abbrev cX6_carryOut : ByteArray := prog_1_method_24_code
def yX6_carryOut : MethodName := ⟨RX6, "carryOut", "()I"⟩
abbrev cX6_undo : ByteArray := prog_1_method_25_code
def yX6_undo : MethodName := ⟨RX6, "undo", "()I"⟩
abbrev cX6_save : ByteArray := prog_1_method_26_code
def yX6_save : MethodName := ⟨RX6, "save", "(I)I"⟩
abbrev cX6_restore : ByteArray := prog_1_method_27_code
def yX6_restore : MethodName := ⟨RX6, "restore", "(I)I"⟩
abbrev cX6_obey : ByteArray := prog_1_method_28_code
def yX6_obey : MethodName := ⟨RX6, "obey", "(II)I"⟩
abbrev cX6_within : ByteArray := prog_1_method_29_code
def yX6_within : MethodName := ⟨RX6, "within", "(III)Z"⟩
abbrev cX6_dividedUp : ByteArray := prog_1_method_30_code
def yX6_dividedUp : MethodName := ⟨RX6, "dividedUp", "(JJ)J"⟩
def RX7 : String := "InterruptInnModel"
def TX7 : u_T := fun k => match k with
  | 0 => ("InterruptInnModel", "now", "[I", true)
  | 1 => ("InterruptInnModel", "kept", "[I", true)
  | 2 => ("InterruptInnModel", "history", "[I", true)
  | 3 => ("InterruptInnModel", "undos", "I", false)
  | 4 => ("InterruptInnModel", "saved", "[I", true)
  | 5 => ("InterruptInnModel", "isSaved", "[Z", true)
  | 6 => ("InterruptInnModel", "pad", "[I", true)
  | 7 => ("InterruptInnModel", "signs", "I", false)
  | 8 => ("InterruptInnModel", "isInText", "Z", false)
  | 9 => ("InterruptInnModel", "orders", "[I", true)
  | 10 => ("InterruptInnModel", "many", "I", false)
  | 11 => ("InterruptInnModel", "place", "I", false)
  | _ => ("InterruptInnModel", "isWrong", "Z", false)
def tyX7 : Nat → FieldType := fun k => match k with
  | 0 => .array .int
  | 1 => .array .int
  | 2 => .array .int
  | 3 => .int
  | 4 => .array .int
  | 5 => .array .boolean
  | 6 => .array .int
  | 7 => .int
  | 8 => .boolean
  | 9 => .array .int
  | 10 => .int
  | 11 => .int
  | _ => .boolean
abbrev wsX70 : List Cond := u_ws RX7 TX7 13
theorem nmX7 : ∀ a, a < 13 → ∀ b, b < 13 → a ≠ b → (TX7 a).2.1 ≠ (TX7 b).2.1 := by decide +kernel
theorem tyX7_ok : ∀ k, k < 13 → parseFieldDescriptor (TX7 k).2.2.1 = some (tyX7 k) := by decide +kernel
abbrev cX7_init : ByteArray := prog_9_method_1_code
def yX7_init : MethodName := ⟨RX7, "<init>", "()V"⟩
abbrev cX7_in : ByteArray := prog_9_method_2_code
def yX7_in : MethodName := ⟨RX7, "in", "(III)Z"⟩
abbrev cX7_record : ByteArray := prog_9_method_3_code
def yX7_record : MethodName := ⟨RX7, "record", "()V"⟩
abbrev cX7_keep : ByteArray := prog_9_method_4_code
def yX7_keep : MethodName := ⟨RX7, "keep", "()V"⟩
abbrev cX7_comeBack : ByteArray := prog_9_method_5_code
def yX7_comeBack : MethodName := ⟨RX7, "comeBack", "()V"⟩
abbrev cX7_least : ByteArray := prog_9_method_6_code
def yX7_least : MethodName := ⟨RX7, "least", "(I)I"⟩
abbrev cX7_most : ByteArray := prog_9_method_7_code
def yX7_most : MethodName := ⟨RX7, "most", "(I)I"⟩
abbrev cX7_set : ByteArray := prog_9_method_8_code
def yX7_set : MethodName := ⟨RX7, "set", "(II)I"⟩
abbrev cX7_areSizes : ByteArray := prog_9_method_9_code
def yX7_areSizes : MethodName := ⟨RX7, "areSizes", "(III)Z"⟩
abbrev cX7_line : ByteArray := prog_9_method_10_code
def yX7_line : MethodName := ⟨RX7, "line", "(IIII)I"⟩
abbrev cX7_isLine : ByteArray := prog_9_method_11_code
def yX7_isLine : MethodName := ⟨RX7, "isLine", "(I)Z"⟩
abbrev cX7_of : ByteArray := prog_9_method_12_code
def yX7_of : MethodName := ⟨RX7, "of", "(II)I"⟩
abbrev cX7_book : ByteArray := prog_9_method_13_code
def yX7_book : MethodName := ⟨RX7, "book", "(IIIZ)V"⟩
abbrev cX7_timer : ByteArray := prog_9_method_14_code
def yX7_timer : MethodName := ⟨RX7, "timer", "(III)I"⟩
abbrev cX7_stop : ByteArray := prog_9_method_15_code
def yX7_stop : MethodName := ⟨RX7, "stop", "(I)I"⟩
abbrev cX7_waits : ByteArray := prog_9_method_16_code
def yX7_waits : MethodName := ⟨RX7, "waits", "(I)Z"⟩
abbrev cX7_turn : ByteArray := prog_9_method_17_code
def yX7_turn : MethodName := ⟨RX7, "turn", "(II)V"⟩
abbrev cX7_edge : ByteArray := prog_9_method_18_code
def yX7_edge : MethodName := ⟨RX7, "edge", "(I)Z"⟩
abbrev cX7_raise : ByteArray := prog_9_method_19_code
def yX7_raise : MethodName := ⟨RX7, "raise", "(I)I"⟩
abbrev cX7_placeOf : ByteArray := prog_9_method_20_code
def yX7_placeOf : MethodName := ⟨RX7, "placeOf", "(I)I"⟩
abbrev cX7_look : ByteArray := prog_9_method_21_code
def yX7_look : MethodName := ⟨RX7, "look", "(I)V"⟩
abbrev cX7_hold : ByteArray := prog_9_method_22_code
def yX7_hold : MethodName := ⟨RX7, "hold", "(III)I"⟩
abbrev cX7_mask : ByteArray := prog_9_method_23_code
def yX7_mask : MethodName := ⟨RX7, "mask", "(II)I"⟩
abbrev cX7_change : ByteArray := prog_9_method_24_code
def yX7_change : MethodName := ⟨RX7, "change", "(IIII)I"⟩
abbrev cX7_present : ByteArray := prog_9_method_25_code
def yX7_present : MethodName := ⟨RX7, "present", "(I)I"⟩
abbrev cX7_found : ByteArray := prog_9_method_26_code
def yX7_found : MethodName := ⟨RX7, "found", "()I"⟩
abbrev cX7_begin : ByteArray := prog_9_method_27_code
def yX7_begin : MethodName := ⟨RX7, "begin", "(I)V"⟩
abbrev cX7_end : ByteArray := prog_9_method_28_code
def yX7_end : MethodName := ⟨RX7, "end", "(I)V"⟩
abbrev cX7_pass : ByteArray := prog_9_method_29_code
def yX7_pass : MethodName := ⟨RX7, "pass", "()V"⟩
abbrev cX7_ticks : ByteArray := prog_9_method_30_code
def yX7_ticks : MethodName := ⟨RX7, "ticks", "(I)I"⟩
abbrev cX7_ofLine : ByteArray := prog_9_method_31_code
def yX7_ofLine : MethodName := ⟨RX7, "ofLine", "(II)I"⟩
abbrev cX7_ofNest : ByteArray := prog_9_method_32_code
def yX7_ofNest : MethodName := ⟨RX7, "ofNest", "(II)I"⟩
abbrev cX7_ofTimer : ByteArray := prog_9_method_33_code
def yX7_ofTimer : MethodName := ⟨RX7, "ofTimer", "(II)I"⟩
abbrev cX7_misses : ByteArray := prog_9_method_34_code
def yX7_misses : MethodName := ⟨RX7, "misses", "()I"⟩
abbrev cX7_waiting : ByteArray := prog_9_method_35_code
def yX7_waiting : MethodName := ⟨RX7, "waiting", "()I"⟩
abbrev cX7_count : ByteArray := prog_9_method_36_code
def yX7_count : MethodName := ⟨RX7, "count", "(I)I"⟩
abbrev cX7_beginsWithin : ByteArray := prog_9_method_37_code
def yX7_beginsWithin : MethodName := ⟨RX7, "beginsWithin", "(II)I"⟩
abbrev cX7_beginsIn : ByteArray := prog_9_method_38_code
def yX7_beginsIn : MethodName := ⟨RX7, "beginsIn", "(I)I"⟩
abbrev cX7_idleIn : ByteArray := prog_9_method_39_code
def yX7_idleIn : MethodName := ⟨RX7, "idleIn", "()I"⟩
abbrev cX7_missesIn : ByteArray := prog_9_method_40_code
def yX7_missesIn : MethodName := ⟨RX7, "missesIn", "(I)I"⟩
abbrev cX7_greatestBar : ByteArray := prog_9_method_41_code
def yX7_greatestBar : MethodName := ⟨RX7, "greatestBar", "(II)I"⟩
abbrev cX7_costOf : ByteArray := prog_9_method_42_code
def yX7_costOf : MethodName := ⟨RX7, "costOf", "(I)I"⟩
abbrev cX7_bound : ByteArray := prog_9_method_43_code
def yX7_bound : MethodName := ⟨RX7, "bound", "(I)I"⟩
abbrev cX7_load : ByteArray := prog_9_method_44_code
def yX7_load : MethodName := ⟨RX7, "load", "()I"⟩
abbrev cX7_sign : ByteArray := prog_9_method_45_code
def yX7_sign : MethodName := ⟨RX7, "sign", "()I"⟩
abbrev cX7_one : ByteArray := prog_9_method_46_code
def yX7_one : MethodName := ⟨RX7, "one", "(II)I"⟩
abbrev cX7_number : ByteArray := prog_9_method_47_code
def yX7_number : MethodName := ⟨RX7, "number", "()I"⟩
abbrev cX7_readOne : ByteArray := prog_9_method_48_code
def yX7_readOne : MethodName := ⟨RX7, "readOne", "()V"⟩
abbrev cX7_faultOf : ByteArray := prog_9_method_49_code
def yX7_faultOf : MethodName := ⟨RX7, "faultOf", "()I"⟩
abbrev cX7_put : ByteArray := prog_9_method_50_code
def yX7_put : MethodName := ⟨RX7, "put", "(J)I"⟩
abbrev cX7_wipe : ByteArray := prog_9_method_51_code
def yX7_wipe : MethodName := ⟨RX7, "wipe", "()I"⟩
abbrev cX7_fault : ByteArray := prog_9_method_52_code
def yX7_fault : MethodName := ⟨RX7, "fault", "()I"⟩
abbrev cX7_carry : ByteArray := prog_9_method_53_code
def yX7_carry : MethodName := ⟨RX7, "carry", "(I)I"⟩
abbrev cX7_carryOut : ByteArray := prog_9_method_54_code
def yX7_carryOut : MethodName := ⟨RX7, "carryOut", "()I"⟩
abbrev cX7_undo : ByteArray := prog_9_method_55_code
def yX7_undo : MethodName := ⟨RX7, "undo", "()I"⟩
abbrev cX7_save : ByteArray := prog_9_method_56_code
def yX7_save : MethodName := ⟨RX7, "save", "(I)I"⟩
abbrev cX7_restore : ByteArray := prog_9_method_57_code
def yX7_restore : MethodName := ⟨RX7, "restore", "(I)I"⟩
def RJx8e188 : String := "java/lang/Cloneable"
def RJ10 : String := "java/lang/System"
def RL : String := "InterruptInnLaw"
abbrev cL_law : ByteArray := code
def yL_law : MethodName := ⟨RL, "law", "([I)Z"⟩
end
section
-- decode rows, printed by the check's program
theorem dX0_init_0 : decode cX0_init 0 = .ok (.aload_n 0, 1) := by decide +kernel
theorem dX0_init_1 : decode cX0_init 1 = .ok (.invokespecial 3, 3) := by decide +kernel
theorem dX0_init_4 : decode cX0_init 4 = .ok (.aload_n 0, 1) := by decide +kernel
theorem dX0_init_5 : decode cX0_init 5 = .ok (.bipush 7, 2) := by decide +kernel
theorem dX0_init_7 : decode cX0_init 7 = .ok (.anewarray 9, 3) := by decide +kernel
theorem dX0_init_10 : decode cX0_init 10 = .ok (.putfield 11, 3) := by decide +kernel
theorem dX0_init_13 : decode cX0_init 13 = .ok (.iconst 0, 1) := by decide +kernel
theorem dX0_init_14 : decode cX0_init 14 = .ok (.istore_n 1, 1) := by decide +kernel
theorem dX0_init_15 : decode cX0_init 15 = .ok (.iload_n 1, 1) := by decide +kernel
theorem dX0_init_16 : decode cX0_init 16 = .ok (.aload_n 0, 1) := by decide +kernel
theorem dX0_init_17 : decode cX0_init 17 = .ok (.getfield 11, 3) := by decide +kernel
theorem dX0_init_20 : decode cX0_init 20 = .ok (.arraylength, 1) := by decide +kernel
theorem dX0_init_21 : decode cX0_init 21 = .ok (.if_icmp .ge 22, 3) := by decide +kernel
theorem dX0_init_24 : decode cX0_init 24 = .ok (.aload_n 0, 1) := by decide +kernel
theorem dX0_init_25 : decode cX0_init 25 = .ok (.getfield 11, 3) := by decide +kernel
theorem dX0_init_28 : decode cX0_init 28 = .ok (.iload_n 1, 1) := by decide +kernel
theorem dX0_init_29 : decode cX0_init 29 = .ok (.new 9, 3) := by decide +kernel
theorem dX0_init_32 : decode cX0_init 32 = .ok (.dup, 1) := by decide +kernel
theorem dX0_init_33 : decode cX0_init 33 = .ok (.invokespecial 17, 3) := by decide +kernel
theorem dX0_init_36 : decode cX0_init 36 = .ok (.aastore, 1) := by decide +kernel
theorem dX0_init_37 : decode cX0_init 37 = .ok (.iinc 1 1, 3) := by decide +kernel
theorem dX0_init_40 : decode cX0_init 40 = .ok (.goto (-25), 3) := by decide +kernel
theorem dX0_init_43 : decode cX0_init 43 = .ok (.return_, 1) := by decide +kernel
theorem dX0_prepare_0 : decode cX0_prepare 0 = .ok (.aload_n 0, 1) := by decide +kernel
theorem dX0_prepare_1 : decode cX0_prepare 1 = .ok (.getfield 11, 3) := by decide +kernel
theorem dX0_prepare_4 : decode cX0_prepare 4 = .ok (.aload_n 0, 1) := by decide +kernel
theorem dX0_prepare_5 : decode cX0_prepare 5 = .ok (.getfield 18, 3) := by decide +kernel
theorem dX0_prepare_8 : decode cX0_prepare 8 = .ok (.aaload, 1) := by decide +kernel
theorem dX0_prepare_9 : decode cX0_prepare 9 = .ok (.aload_n 1, 1) := by decide +kernel
theorem dX0_prepare_10 : decode cX0_prepare 10 = .ok (.invokevirtual 22, 3) := by decide +kernel
theorem dX0_prepare_13 : decode cX0_prepare 13 = .ok (.return_, 1) := by decide +kernel
theorem dX0_recordUnlessError_0 : decode cX0_recordUnlessError 0 = .ok (.iload_n 1, 1) := by decide +kernel
theorem dX0_recordUnlessError_1 : decode cX0_recordUnlessError 1 = .ok (.ifCond .lt 55, 3) := by decide +kernel
theorem dX0_recordUnlessError_4 : decode cX0_recordUnlessError 4 = .ok (.aload_n 0, 1) := by decide +kernel
theorem dX0_recordUnlessError_5 : decode cX0_recordUnlessError 5 = .ok (.aload_n 0, 1) := by decide +kernel
theorem dX0_recordUnlessError_6 : decode cX0_recordUnlessError 6 = .ok (.getfield 18, 3) := by decide +kernel
theorem dX0_recordUnlessError_9 : decode cX0_recordUnlessError 9 = .ok (.iconst 1, 1) := by decide +kernel
theorem dX0_recordUnlessError_10 : decode cX0_recordUnlessError 10 = .ok (.iadd, 1) := by decide +kernel
theorem dX0_recordUnlessError_11 : decode cX0_recordUnlessError 11 = .ok (.aload_n 0, 1) := by decide +kernel
theorem dX0_recordUnlessError_12 : decode cX0_recordUnlessError 12 = .ok (.getfield 11, 3) := by decide +kernel
theorem dX0_recordUnlessError_15 : decode cX0_recordUnlessError 15 = .ok (.arraylength, 1) := by decide +kernel
theorem dX0_recordUnlessError_16 : decode cX0_recordUnlessError 16 = .ok (.if_icmp .ge 12, 3) := by decide +kernel
theorem dX0_recordUnlessError_19 : decode cX0_recordUnlessError 19 = .ok (.aload_n 0, 1) := by decide +kernel
theorem dX0_recordUnlessError_20 : decode cX0_recordUnlessError 20 = .ok (.getfield 18, 3) := by decide +kernel
theorem dX0_recordUnlessError_23 : decode cX0_recordUnlessError 23 = .ok (.iconst 1, 1) := by decide +kernel
theorem dX0_recordUnlessError_24 : decode cX0_recordUnlessError 24 = .ok (.iadd, 1) := by decide +kernel
theorem dX0_recordUnlessError_25 : decode cX0_recordUnlessError 25 = .ok (.goto 4, 3) := by decide +kernel
theorem dX0_recordUnlessError_28 : decode cX0_recordUnlessError 28 = .ok (.iconst 0, 1) := by decide +kernel
theorem dX0_recordUnlessError_29 : decode cX0_recordUnlessError 29 = .ok (.putfield 18, 3) := by decide +kernel
theorem dX0_recordUnlessError_32 : decode cX0_recordUnlessError 32 = .ok (.aload_n 0, 1) := by decide +kernel
theorem dX0_recordUnlessError_33 : decode cX0_recordUnlessError 33 = .ok (.aload_n 0, 1) := by decide +kernel
theorem dX0_recordUnlessError_34 : decode cX0_recordUnlessError 34 = .ok (.getfield 26, 3) := by decide +kernel
theorem dX0_recordUnlessError_37 : decode cX0_recordUnlessError 37 = .ok (.bipush 6, 2) := by decide +kernel
theorem dX0_recordUnlessError_39 : decode cX0_recordUnlessError 39 = .ok (.if_icmp .ge 12, 3) := by decide +kernel
theorem dX0_recordUnlessError_42 : decode cX0_recordUnlessError 42 = .ok (.aload_n 0, 1) := by decide +kernel
theorem dX0_recordUnlessError_43 : decode cX0_recordUnlessError 43 = .ok (.getfield 26, 3) := by decide +kernel
theorem dX0_recordUnlessError_46 : decode cX0_recordUnlessError 46 = .ok (.iconst 1, 1) := by decide +kernel
theorem dX0_recordUnlessError_47 : decode cX0_recordUnlessError 47 = .ok (.iadd, 1) := by decide +kernel
theorem dX0_recordUnlessError_48 : decode cX0_recordUnlessError 48 = .ok (.goto 5, 3) := by decide +kernel
theorem dX0_recordUnlessError_51 : decode cX0_recordUnlessError 51 = .ok (.bipush 6, 2) := by decide +kernel
theorem dX0_recordUnlessError_53 : decode cX0_recordUnlessError 53 = .ok (.putfield 26, 3) := by decide +kernel
theorem dX0_recordUnlessError_56 : decode cX0_recordUnlessError 56 = .ok (.iload_n 1, 1) := by decide +kernel
theorem dX0_recordUnlessError_57 : decode cX0_recordUnlessError 57 = .ok (.ireturn, 1) := by decide +kernel
theorem dX0_takeBack_0 : decode cX0_takeBack 0 = .ok (.aload_n 0, 1) := by decide +kernel
theorem dX0_takeBack_1 : decode cX0_takeBack 1 = .ok (.getfield 26, 3) := by decide +kernel
theorem dX0_takeBack_4 : decode cX0_takeBack 4 = .ok (.ifCond .ne 6, 3) := by decide +kernel
theorem dX0_takeBack_7 : decode cX0_takeBack 7 = .ok (.bipush (-5), 2) := by decide +kernel
theorem dX0_takeBack_9 : decode cX0_takeBack 9 = .ok (.ireturn, 1) := by decide +kernel
theorem dX0_takeBack_10 : decode cX0_takeBack 10 = .ok (.aload_n 0, 1) := by decide +kernel
theorem dX0_takeBack_11 : decode cX0_takeBack 11 = .ok (.dup, 1) := by decide +kernel
theorem dX0_takeBack_12 : decode cX0_takeBack 12 = .ok (.getfield 26, 3) := by decide +kernel
theorem dX0_takeBack_15 : decode cX0_takeBack 15 = .ok (.iconst 1, 1) := by decide +kernel
theorem dX0_takeBack_16 : decode cX0_takeBack 16 = .ok (.isub, 1) := by decide +kernel
theorem dX0_takeBack_17 : decode cX0_takeBack 17 = .ok (.putfield 26, 3) := by decide +kernel
theorem dX0_takeBack_20 : decode cX0_takeBack 20 = .ok (.aload_n 0, 1) := by decide +kernel
theorem dX0_takeBack_21 : decode cX0_takeBack 21 = .ok (.aload_n 0, 1) := by decide +kernel
theorem dX0_takeBack_22 : decode cX0_takeBack 22 = .ok (.getfield 18, 3) := by decide +kernel
theorem dX0_takeBack_25 : decode cX0_takeBack 25 = .ok (.ifCond .le 12, 3) := by decide +kernel
theorem dX0_takeBack_28 : decode cX0_takeBack 28 = .ok (.aload_n 0, 1) := by decide +kernel
theorem dX0_takeBack_29 : decode cX0_takeBack 29 = .ok (.getfield 18, 3) := by decide +kernel
theorem dX0_takeBack_32 : decode cX0_takeBack 32 = .ok (.iconst 1, 1) := by decide +kernel
theorem dX0_takeBack_33 : decode cX0_takeBack 33 = .ok (.isub, 1) := by decide +kernel
theorem dX0_takeBack_34 : decode cX0_takeBack 34 = .ok (.goto 10, 3) := by decide +kernel
theorem dX0_takeBack_37 : decode cX0_takeBack 37 = .ok (.aload_n 0, 1) := by decide +kernel
theorem dX0_takeBack_38 : decode cX0_takeBack 38 = .ok (.getfield 11, 3) := by decide +kernel
theorem dX0_takeBack_41 : decode cX0_takeBack 41 = .ok (.arraylength, 1) := by decide +kernel
theorem dX0_takeBack_42 : decode cX0_takeBack 42 = .ok (.iconst 1, 1) := by decide +kernel
theorem dX0_takeBack_43 : decode cX0_takeBack 43 = .ok (.isub, 1) := by decide +kernel
theorem dX0_takeBack_44 : decode cX0_takeBack 44 = .ok (.putfield 18, 3) := by decide +kernel
theorem dX0_takeBack_47 : decode cX0_takeBack 47 = .ok (.aload_n 1, 1) := by decide +kernel
theorem dX0_takeBack_48 : decode cX0_takeBack 48 = .ok (.aload_n 0, 1) := by decide +kernel
theorem dX0_takeBack_49 : decode cX0_takeBack 49 = .ok (.getfield 11, 3) := by decide +kernel
theorem dX0_takeBack_52 : decode cX0_takeBack 52 = .ok (.aload_n 0, 1) := by decide +kernel
theorem dX0_takeBack_53 : decode cX0_takeBack 53 = .ok (.getfield 18, 3) := by decide +kernel
theorem dX0_takeBack_56 : decode cX0_takeBack 56 = .ok (.aaload, 1) := by decide +kernel
theorem dX0_takeBack_57 : decode cX0_takeBack 57 = .ok (.invokevirtual 22, 3) := by decide +kernel
theorem dX0_takeBack_60 : decode cX0_takeBack 60 = .ok (.aload_n 0, 1) := by decide +kernel
theorem dX0_takeBack_61 : decode cX0_takeBack 61 = .ok (.getfield 26, 3) := by decide +kernel
theorem dX0_takeBack_64 : decode cX0_takeBack 64 = .ok (.ireturn, 1) := by decide +kernel
theorem dX1_init_0 : decode cX1_init 0 = .ok (.aload_n 0, 1) := by decide +kernel
theorem dX1_init_1 : decode cX1_init 1 = .ok (.invokespecial 3, 3) := by decide +kernel
theorem dX1_init_4 : decode cX1_init 4 = .ok (.return_, 1) := by decide +kernel
theorem dX1_becomeNew_0 : decode cX1_becomeNew 0 = .ok (.aload_n 0, 1) := by decide +kernel
theorem dX1_becomeNew_1 : decode cX1_becomeNew 1 = .ok (.iload_n 1, 1) := by decide +kernel
theorem dX1_becomeNew_2 : decode cX1_becomeNew 2 = .ok (.putfield 9, 3) := by decide +kernel
theorem dX1_becomeNew_5 : decode cX1_becomeNew 5 = .ok (.aload_n 0, 1) := by decide +kernel
theorem dX1_becomeNew_6 : decode cX1_becomeNew 6 = .ok (.iconst 0, 1) := by decide +kernel
theorem dX1_becomeNew_7 : decode cX1_becomeNew 7 = .ok (.putfield 15, 3) := by decide +kernel
theorem dX1_becomeNew_10 : decode cX1_becomeNew 10 = .ok (.aload_n 0, 1) := by decide +kernel
theorem dX1_becomeNew_11 : decode cX1_becomeNew 11 = .ok (.iconst 0, 1) := by decide +kernel
theorem dX1_becomeNew_12 : decode cX1_becomeNew 12 = .ok (.putfield 18, 3) := by decide +kernel
theorem dX1_becomeNew_15 : decode cX1_becomeNew 15 = .ok (.aload_n 0, 1) := by decide +kernel
theorem dX1_becomeNew_16 : decode cX1_becomeNew 16 = .ok (.iconst 0, 1) := by decide +kernel
theorem dX1_becomeNew_17 : decode cX1_becomeNew 17 = .ok (.putfield 21, 3) := by decide +kernel
theorem dX1_becomeNew_20 : decode cX1_becomeNew 20 = .ok (.aload_n 0, 1) := by decide +kernel
theorem dX1_becomeNew_21 : decode cX1_becomeNew 21 = .ok (.bipush (-6), 2) := by decide +kernel
theorem dX1_becomeNew_23 : decode cX1_becomeNew 23 = .ok (.putfield 25, 3) := by decide +kernel
theorem dX1_becomeNew_26 : decode cX1_becomeNew 26 = .ok (.aload_n 0, 1) := by decide +kernel
theorem dX1_becomeNew_27 : decode cX1_becomeNew 27 = .ok (.iconst 0, 1) := by decide +kernel
theorem dX1_becomeNew_28 : decode cX1_becomeNew 28 = .ok (.putfield 28, 3) := by decide +kernel
theorem dX1_becomeNew_31 : decode cX1_becomeNew 31 = .ok (.aload_n 0, 1) := by decide +kernel
theorem dX1_becomeNew_32 : decode cX1_becomeNew 32 = .ok (.iconst 0, 1) := by decide +kernel
theorem dX1_becomeNew_33 : decode cX1_becomeNew 33 = .ok (.putfield 31, 3) := by decide +kernel
theorem dX1_becomeNew_36 : decode cX1_becomeNew 36 = .ok (.aload_n 0, 1) := by decide +kernel
theorem dX1_becomeNew_37 : decode cX1_becomeNew 37 = .ok (.iconst 0, 1) := by decide +kernel
theorem dX1_becomeNew_38 : decode cX1_becomeNew 38 = .ok (.putfield 34, 3) := by decide +kernel
theorem dX1_becomeNew_41 : decode cX1_becomeNew 41 = .ok (.aload_n 0, 1) := by decide +kernel
theorem dX1_becomeNew_42 : decode cX1_becomeNew 42 = .ok (.iconst 0, 1) := by decide +kernel
theorem dX1_becomeNew_43 : decode cX1_becomeNew 43 = .ok (.putfield 37, 3) := by decide +kernel
theorem dX1_becomeNew_46 : decode cX1_becomeNew 46 = .ok (.aload_n 0, 1) := by decide +kernel
theorem dX1_becomeNew_47 : decode cX1_becomeNew 47 = .ok (.iconst 0, 1) := by decide +kernel
theorem dX1_becomeNew_48 : decode cX1_becomeNew 48 = .ok (.putfield 40, 3) := by decide +kernel
theorem dX1_becomeNew_51 : decode cX1_becomeNew 51 = .ok (.aload_n 0, 1) := by decide +kernel
theorem dX1_becomeNew_52 : decode cX1_becomeNew 52 = .ok (.iconst 0, 1) := by decide +kernel
theorem dX1_becomeNew_53 : decode cX1_becomeNew 53 = .ok (.putfield 43, 3) := by decide +kernel
theorem dX1_becomeNew_56 : decode cX1_becomeNew 56 = .ok (.aload_n 0, 1) := by decide +kernel
theorem dX1_becomeNew_57 : decode cX1_becomeNew 57 = .ok (.iconst 0, 1) := by decide +kernel
theorem dX1_becomeNew_58 : decode cX1_becomeNew 58 = .ok (.putfield 46, 3) := by decide +kernel
theorem dX1_becomeNew_61 : decode cX1_becomeNew 61 = .ok (.aload_n 0, 1) := by decide +kernel
theorem dX1_becomeNew_62 : decode cX1_becomeNew 62 = .ok (.iconst 0, 1) := by decide +kernel
theorem dX1_becomeNew_63 : decode cX1_becomeNew 63 = .ok (.putfield 49, 3) := by decide +kernel
theorem dX1_becomeNew_66 : decode cX1_becomeNew 66 = .ok (.return_, 1) := by decide +kernel
theorem dX1_shape_0 : decode cX1_shape 0 = .ok (.aload_n 0, 1) := by decide +kernel
theorem dX1_shape_1 : decode cX1_shape 1 = .ok (.iload_n 1, 1) := by decide +kernel
theorem dX1_shape_2 : decode cX1_shape 2 = .ok (.putfield 52, 3) := by decide +kernel
theorem dX1_shape_5 : decode cX1_shape 5 = .ok (.aload_n 0, 1) := by decide +kernel
theorem dX1_shape_6 : decode cX1_shape 6 = .ok (.iload_n 2, 1) := by decide +kernel
theorem dX1_shape_7 : decode cX1_shape 7 = .ok (.putfield 55, 3) := by decide +kernel
theorem dX1_shape_10 : decode cX1_shape 10 = .ok (.aload_n 0, 1) := by decide +kernel
theorem dX1_shape_11 : decode cX1_shape 11 = .ok (.iload_n 3, 1) := by decide +kernel
theorem dX1_shape_12 : decode cX1_shape 12 = .ok (.putfield 58, 3) := by decide +kernel
theorem dX1_shape_15 : decode cX1_shape 15 = .ok (.return_, 1) := by decide +kernel
theorem dX1_copyFrom_0 : decode cX1_copyFrom 0 = .ok (.aload_n 0, 1) := by decide +kernel
theorem dX1_copyFrom_1 : decode cX1_copyFrom 1 = .ok (.aload_n 1, 1) := by decide +kernel
theorem dX1_copyFrom_2 : decode cX1_copyFrom 2 = .ok (.getfield 52, 3) := by decide +kernel
theorem dX1_copyFrom_5 : decode cX1_copyFrom 5 = .ok (.putfield 52, 3) := by decide +kernel
theorem dX1_copyFrom_8 : decode cX1_copyFrom 8 = .ok (.aload_n 0, 1) := by decide +kernel
theorem dX1_copyFrom_9 : decode cX1_copyFrom 9 = .ok (.aload_n 1, 1) := by decide +kernel
theorem dX1_copyFrom_10 : decode cX1_copyFrom 10 = .ok (.getfield 55, 3) := by decide +kernel
theorem dX1_copyFrom_13 : decode cX1_copyFrom 13 = .ok (.putfield 55, 3) := by decide +kernel
theorem dX1_copyFrom_16 : decode cX1_copyFrom 16 = .ok (.aload_n 0, 1) := by decide +kernel
theorem dX1_copyFrom_17 : decode cX1_copyFrom 17 = .ok (.aload_n 1, 1) := by decide +kernel
theorem dX1_copyFrom_18 : decode cX1_copyFrom 18 = .ok (.getfield 58, 3) := by decide +kernel
theorem dX1_copyFrom_21 : decode cX1_copyFrom 21 = .ok (.putfield 58, 3) := by decide +kernel
theorem dX1_copyFrom_24 : decode cX1_copyFrom 24 = .ok (.aload_n 0, 1) := by decide +kernel
theorem dX1_copyFrom_25 : decode cX1_copyFrom 25 = .ok (.aload_n 1, 1) := by decide +kernel
theorem dX1_copyFrom_26 : decode cX1_copyFrom 26 = .ok (.getfield 9, 3) := by decide +kernel
theorem dX1_copyFrom_29 : decode cX1_copyFrom 29 = .ok (.putfield 9, 3) := by decide +kernel
theorem dX1_copyFrom_32 : decode cX1_copyFrom 32 = .ok (.aload_n 0, 1) := by decide +kernel
theorem dX1_copyFrom_33 : decode cX1_copyFrom 33 = .ok (.aload_n 1, 1) := by decide +kernel
theorem dX1_copyFrom_34 : decode cX1_copyFrom 34 = .ok (.getfield 15, 3) := by decide +kernel
theorem dX1_copyFrom_37 : decode cX1_copyFrom 37 = .ok (.putfield 15, 3) := by decide +kernel
theorem dX1_copyFrom_40 : decode cX1_copyFrom 40 = .ok (.aload_n 0, 1) := by decide +kernel
theorem dX1_copyFrom_41 : decode cX1_copyFrom 41 = .ok (.aload_n 1, 1) := by decide +kernel
theorem dX1_copyFrom_42 : decode cX1_copyFrom 42 = .ok (.getfield 18, 3) := by decide +kernel
theorem dX1_copyFrom_45 : decode cX1_copyFrom 45 = .ok (.putfield 18, 3) := by decide +kernel
theorem dX1_copyFrom_48 : decode cX1_copyFrom 48 = .ok (.aload_n 0, 1) := by decide +kernel
theorem dX1_copyFrom_49 : decode cX1_copyFrom 49 = .ok (.aload_n 1, 1) := by decide +kernel
theorem dX1_copyFrom_50 : decode cX1_copyFrom 50 = .ok (.getfield 21, 3) := by decide +kernel
theorem dX1_copyFrom_53 : decode cX1_copyFrom 53 = .ok (.putfield 21, 3) := by decide +kernel
theorem dX1_copyFrom_56 : decode cX1_copyFrom 56 = .ok (.aload_n 0, 1) := by decide +kernel
theorem dX1_copyFrom_57 : decode cX1_copyFrom 57 = .ok (.aload_n 1, 1) := by decide +kernel
theorem dX1_copyFrom_58 : decode cX1_copyFrom 58 = .ok (.getfield 25, 3) := by decide +kernel
theorem dX1_copyFrom_61 : decode cX1_copyFrom 61 = .ok (.putfield 25, 3) := by decide +kernel
theorem dX1_copyFrom_64 : decode cX1_copyFrom 64 = .ok (.aload_n 0, 1) := by decide +kernel
theorem dX1_copyFrom_65 : decode cX1_copyFrom 65 = .ok (.aload_n 1, 1) := by decide +kernel
theorem dX1_copyFrom_66 : decode cX1_copyFrom 66 = .ok (.getfield 28, 3) := by decide +kernel
theorem dX1_copyFrom_69 : decode cX1_copyFrom 69 = .ok (.putfield 28, 3) := by decide +kernel
theorem dX1_copyFrom_72 : decode cX1_copyFrom 72 = .ok (.aload_n 0, 1) := by decide +kernel
theorem dX1_copyFrom_73 : decode cX1_copyFrom 73 = .ok (.aload_n 1, 1) := by decide +kernel
theorem dX1_copyFrom_74 : decode cX1_copyFrom 74 = .ok (.getfield 31, 3) := by decide +kernel
theorem dX1_copyFrom_77 : decode cX1_copyFrom 77 = .ok (.putfield 31, 3) := by decide +kernel
theorem dX1_copyFrom_80 : decode cX1_copyFrom 80 = .ok (.aload_n 0, 1) := by decide +kernel
theorem dX1_copyFrom_81 : decode cX1_copyFrom 81 = .ok (.aload_n 1, 1) := by decide +kernel
theorem dX1_copyFrom_82 : decode cX1_copyFrom 82 = .ok (.getfield 34, 3) := by decide +kernel
theorem dX1_copyFrom_85 : decode cX1_copyFrom 85 = .ok (.putfield 34, 3) := by decide +kernel
theorem dX1_copyFrom_88 : decode cX1_copyFrom 88 = .ok (.aload_n 0, 1) := by decide +kernel
theorem dX1_copyFrom_89 : decode cX1_copyFrom 89 = .ok (.aload_n 1, 1) := by decide +kernel
theorem dX1_copyFrom_90 : decode cX1_copyFrom 90 = .ok (.getfield 37, 3) := by decide +kernel
theorem dX1_copyFrom_93 : decode cX1_copyFrom 93 = .ok (.putfield 37, 3) := by decide +kernel
theorem dX1_copyFrom_96 : decode cX1_copyFrom 96 = .ok (.aload_n 0, 1) := by decide +kernel
theorem dX1_copyFrom_97 : decode cX1_copyFrom 97 = .ok (.aload_n 1, 1) := by decide +kernel
theorem dX1_copyFrom_98 : decode cX1_copyFrom 98 = .ok (.getfield 40, 3) := by decide +kernel
theorem dX1_copyFrom_101 : decode cX1_copyFrom 101 = .ok (.putfield 40, 3) := by decide +kernel
theorem dX1_copyFrom_104 : decode cX1_copyFrom 104 = .ok (.aload_n 0, 1) := by decide +kernel
theorem dX1_copyFrom_105 : decode cX1_copyFrom 105 = .ok (.aload_n 1, 1) := by decide +kernel
theorem dX1_copyFrom_106 : decode cX1_copyFrom 106 = .ok (.getfield 43, 3) := by decide +kernel
theorem dX1_copyFrom_109 : decode cX1_copyFrom 109 = .ok (.putfield 43, 3) := by decide +kernel
theorem dX1_copyFrom_112 : decode cX1_copyFrom 112 = .ok (.aload_n 0, 1) := by decide +kernel
theorem dX1_copyFrom_113 : decode cX1_copyFrom 113 = .ok (.aload_n 1, 1) := by decide +kernel
theorem dX1_copyFrom_114 : decode cX1_copyFrom 114 = .ok (.getfield 46, 3) := by decide +kernel
theorem dX1_copyFrom_117 : decode cX1_copyFrom 117 = .ok (.putfield 46, 3) := by decide +kernel
theorem dX1_copyFrom_120 : decode cX1_copyFrom 120 = .ok (.aload_n 0, 1) := by decide +kernel
theorem dX1_copyFrom_121 : decode cX1_copyFrom 121 = .ok (.aload_n 1, 1) := by decide +kernel
theorem dX1_copyFrom_122 : decode cX1_copyFrom 122 = .ok (.getfield 49, 3) := by decide +kernel
theorem dX1_copyFrom_125 : decode cX1_copyFrom 125 = .ok (.putfield 49, 3) := by decide +kernel
theorem dX1_copyFrom_128 : decode cX1_copyFrom 128 = .ok (.return_, 1) := by decide +kernel
theorem dX1_presentRank_0 : decode cX1_presentRank 0 = .ok (.aload_n 0, 1) := by decide +kernel
theorem dX1_presentRank_1 : decode cX1_presentRank 1 = .ok (.getfield 18, 3) := by decide +kernel
theorem dX1_presentRank_4 : decode cX1_presentRank 4 = .ok (.ifCond .eq 15, 3) := by decide +kernel
theorem dX1_presentRank_7 : decode cX1_presentRank 7 = .ok (.iload_n 1, 1) := by decide +kernel
theorem dX1_presentRank_8 : decode cX1_presentRank 8 = .ok (.ifCond .le 11, 3) := by decide +kernel
theorem dX1_presentRank_11 : decode cX1_presentRank 11 = .ok (.aload_n 0, 1) := by decide +kernel
theorem dX1_presentRank_12 : decode cX1_presentRank 12 = .ok (.getfield 52, 3) := by decide +kernel
theorem dX1_presentRank_15 : decode cX1_presentRank 15 = .ok (.iload_n 2, 1) := by decide +kernel
theorem dX1_presentRank_16 : decode cX1_presentRank 16 = .ok (.if_icmp .lt 8, 3) := by decide +kernel
theorem dX1_presentRank_19 : decode cX1_presentRank 19 = .ok (.aload_n 0, 1) := by decide +kernel
theorem dX1_presentRank_20 : decode cX1_presentRank 20 = .ok (.getfield 52, 3) := by decide +kernel
theorem dX1_presentRank_23 : decode cX1_presentRank 23 = .ok (.ireturn, 1) := by decide +kernel
theorem dX1_presentRank_24 : decode cX1_presentRank 24 = .ok (.aload_n 0, 1) := by decide +kernel
theorem dX1_presentRank_25 : decode cX1_presentRank 25 = .ok (.getfield 52, 3) := by decide +kernel
theorem dX1_presentRank_28 : decode cX1_presentRank 28 = .ok (.aload_n 0, 1) := by decide +kernel
theorem dX1_presentRank_29 : decode cX1_presentRank 29 = .ok (.getfield 21, 3) := by decide +kernel
theorem dX1_presentRank_32 : decode cX1_presentRank 32 = .ok (.iload_n 1, 1) := by decide +kernel
theorem dX1_presentRank_33 : decode cX1_presentRank 33 = .ok (.idiv, 1) := by decide +kernel
theorem dX1_presentRank_34 : decode cX1_presentRank 34 = .ok (.iadd, 1) := by decide +kernel
theorem dX1_presentRank_35 : decode cX1_presentRank 35 = .ok (.istore_n 3, 1) := by decide +kernel
theorem dX1_presentRank_36 : decode cX1_presentRank 36 = .ok (.iload_n 3, 1) := by decide +kernel
theorem dX1_presentRank_37 : decode cX1_presentRank 37 = .ok (.iload_n 2, 1) := by decide +kernel
theorem dX1_presentRank_38 : decode cX1_presentRank 38 = .ok (.if_icmp .ge 7, 3) := by decide +kernel
theorem dX1_presentRank_41 : decode cX1_presentRank 41 = .ok (.iload_n 3, 1) := by decide +kernel
theorem dX1_presentRank_42 : decode cX1_presentRank 42 = .ok (.goto 4, 3) := by decide +kernel
theorem dX1_presentRank_45 : decode cX1_presentRank 45 = .ok (.iload_n 2, 1) := by decide +kernel
theorem dX1_presentRank_46 : decode cX1_presentRank 46 = .ok (.ireturn, 1) := by decide +kernel
theorem dX1_mayBegin_0 : decode cX1_mayBegin 0 = .ok (.aload_n 0, 1) := by decide +kernel
theorem dX1_mayBegin_1 : decode cX1_mayBegin 1 = .ok (.getfield 18, 3) := by decide +kernel
theorem dX1_mayBegin_4 : decode cX1_mayBegin 4 = .ok (.ifCond .eq 23, 3) := by decide +kernel
theorem dX1_mayBegin_7 : decode cX1_mayBegin 7 = .ok (.aload_n 0, 1) := by decide +kernel
theorem dX1_mayBegin_8 : decode cX1_mayBegin 8 = .ok (.getfield 15, 3) := by decide +kernel
theorem dX1_mayBegin_11 : decode cX1_mayBegin 11 = .ok (.ifCond .ne 16, 3) := by decide +kernel
theorem dX1_mayBegin_14 : decode cX1_mayBegin 14 = .ok (.aload_n 0, 1) := by decide +kernel
theorem dX1_mayBegin_15 : decode cX1_mayBegin 15 = .ok (.getfield 25, 3) := by decide +kernel
theorem dX1_mayBegin_18 : decode cX1_mayBegin 18 = .ok (.bipush (-6), 2) := by decide +kernel
theorem dX1_mayBegin_20 : decode cX1_mayBegin 20 = .ok (.if_icmp .ne 7, 3) := by decide +kernel
theorem dX1_mayBegin_23 : decode cX1_mayBegin 23 = .ok (.iconst 1, 1) := by decide +kernel
theorem dX1_mayBegin_24 : decode cX1_mayBegin 24 = .ok (.goto 4, 3) := by decide +kernel
theorem dX1_mayBegin_27 : decode cX1_mayBegin 27 = .ok (.iconst 0, 1) := by decide +kernel
theorem dX1_mayBegin_28 : decode cX1_mayBegin 28 = .ok (.ireturn, 1) := by decide +kernel
theorem dX1_takeEdge_0 : decode cX1_takeEdge 0 = .ok (.aload_n 0, 1) := by decide +kernel
theorem dX1_takeEdge_1 : decode cX1_takeEdge 1 = .ok (.dup, 1) := by decide +kernel
theorem dX1_takeEdge_2 : decode cX1_takeEdge 2 = .ok (.getfield 31, 3) := by decide +kernel
theorem dX1_takeEdge_5 : decode cX1_takeEdge 5 = .ok (.iconst 1, 1) := by decide +kernel
theorem dX1_takeEdge_6 : decode cX1_takeEdge 6 = .ok (.iadd, 1) := by decide +kernel
theorem dX1_takeEdge_7 : decode cX1_takeEdge 7 = .ok (.putfield 31, 3) := by decide +kernel
theorem dX1_takeEdge_10 : decode cX1_takeEdge 10 = .ok (.aload_n 0, 1) := by decide +kernel
theorem dX1_takeEdge_11 : decode cX1_takeEdge 11 = .ok (.getfield 18, 3) := by decide +kernel
theorem dX1_takeEdge_14 : decode cX1_takeEdge 14 = .ok (.ifCond .ne 14, 3) := by decide +kernel
theorem dX1_takeEdge_17 : decode cX1_takeEdge 17 = .ok (.aload_n 0, 1) := by decide +kernel
theorem dX1_takeEdge_18 : decode cX1_takeEdge 18 = .ok (.getfield 15, 3) := by decide +kernel
theorem dX1_takeEdge_21 : decode cX1_takeEdge 21 = .ok (.ifCond .eq 19, 3) := by decide +kernel
theorem dX1_takeEdge_24 : decode cX1_takeEdge 24 = .ok (.iload_n 1, 1) := by decide +kernel
theorem dX1_takeEdge_25 : decode cX1_takeEdge 25 = .ok (.ifCond .ne 15, 3) := by decide +kernel
theorem dX1_takeEdge_28 : decode cX1_takeEdge 28 = .ok (.aload_n 0, 1) := by decide +kernel
theorem dX1_takeEdge_29 : decode cX1_takeEdge 29 = .ok (.dup, 1) := by decide +kernel
theorem dX1_takeEdge_30 : decode cX1_takeEdge 30 = .ok (.getfield 34, 3) := by decide +kernel
theorem dX1_takeEdge_33 : decode cX1_takeEdge 33 = .ok (.iconst 1, 1) := by decide +kernel
theorem dX1_takeEdge_34 : decode cX1_takeEdge 34 = .ok (.iadd, 1) := by decide +kernel
theorem dX1_takeEdge_35 : decode cX1_takeEdge 35 = .ok (.putfield 34, 3) := by decide +kernel
theorem dX1_takeEdge_38 : decode cX1_takeEdge 38 = .ok (.iconst 0, 1) := by decide +kernel
theorem dX1_takeEdge_39 : decode cX1_takeEdge 39 = .ok (.ireturn, 1) := by decide +kernel
theorem dX1_takeEdge_40 : decode cX1_takeEdge 40 = .ok (.aload_n 0, 1) := by decide +kernel
theorem dX1_takeEdge_41 : decode cX1_takeEdge 41 = .ok (.iconst 1, 1) := by decide +kernel
theorem dX1_takeEdge_42 : decode cX1_takeEdge 42 = .ok (.putfield 18, 3) := by decide +kernel
theorem dX1_takeEdge_45 : decode cX1_takeEdge 45 = .ok (.aload_n 0, 1) := by decide +kernel
theorem dX1_takeEdge_46 : decode cX1_takeEdge 46 = .ok (.iconst 0, 1) := by decide +kernel
theorem dX1_takeEdge_47 : decode cX1_takeEdge 47 = .ok (.putfield 21, 3) := by decide +kernel
theorem dX1_takeEdge_50 : decode cX1_takeEdge 50 = .ok (.iconst 1, 1) := by decide +kernel
theorem dX1_takeEdge_51 : decode cX1_takeEdge 51 = .ok (.ireturn, 1) := by decide +kernel
theorem dX1_moveDevice_0 : decode cX1_moveDevice 0 = .ok (.iconst 1, 1) := by decide +kernel
theorem dX1_moveDevice_1 : decode cX1_moveDevice 1 = .ok (.iload_n 1, 1) := by decide +kernel
theorem dX1_moveDevice_2 : decode cX1_moveDevice 2 = .ok (.ishl, 1) := by decide +kernel
theorem dX1_moveDevice_3 : decode cX1_moveDevice 3 = .ok (.istore_n 3, 1) := by decide +kernel
theorem dX1_moveDevice_4 : decode cX1_moveDevice 4 = .ok (.aload_n 0, 1) := by decide +kernel
theorem dX1_moveDevice_5 : decode cX1_moveDevice 5 = .ok (.iload_n 2, 1) := by decide +kernel
theorem dX1_moveDevice_6 : decode cX1_moveDevice 6 = .ok (.ifCond .eq 12, 3) := by decide +kernel
theorem dX1_moveDevice_9 : decode cX1_moveDevice 9 = .ok (.aload_n 0, 1) := by decide +kernel
theorem dX1_moveDevice_10 : decode cX1_moveDevice 10 = .ok (.getfield 28, 3) := by decide +kernel
theorem dX1_moveDevice_13 : decode cX1_moveDevice 13 = .ok (.iload_n 3, 1) := by decide +kernel
theorem dX1_moveDevice_14 : decode cX1_moveDevice 14 = .ok (.ior, 1) := by decide +kernel
theorem dX1_moveDevice_15 : decode cX1_moveDevice 15 = .ok (.goto 11, 3) := by decide +kernel
theorem dX1_moveDevice_18 : decode cX1_moveDevice 18 = .ok (.aload_n 0, 1) := by decide +kernel
theorem dX1_moveDevice_19 : decode cX1_moveDevice 19 = .ok (.getfield 28, 3) := by decide +kernel
theorem dX1_moveDevice_22 : decode cX1_moveDevice 22 = .ok (.iload_n 3, 1) := by decide +kernel
theorem dX1_moveDevice_23 : decode cX1_moveDevice 23 = .ok (.iconst (-1), 1) := by decide +kernel
theorem dX1_moveDevice_24 : decode cX1_moveDevice 24 = .ok (.ixor, 1) := by decide +kernel
theorem dX1_moveDevice_25 : decode cX1_moveDevice 25 = .ok (.iand, 1) := by decide +kernel
theorem dX1_moveDevice_26 : decode cX1_moveDevice 26 = .ok (.putfield 28, 3) := by decide +kernel
theorem dX1_moveDevice_29 : decode cX1_moveDevice 29 = .ok (.aload_n 0, 1) := by decide +kernel
theorem dX1_moveDevice_30 : decode cX1_moveDevice 30 = .ok (.invokevirtual 61, 3) := by decide +kernel
theorem dX1_moveDevice_33 : decode cX1_moveDevice 33 = .ok (.return_, 1) := by decide +kernel
theorem dX1_followDevices_0 : decode cX1_followDevices 0 = .ok (.aload_n 0, 1) := by decide +kernel
theorem dX1_followDevices_1 : decode cX1_followDevices 1 = .ok (.getfield 28, 3) := by decide +kernel
theorem dX1_followDevices_4 : decode cX1_followDevices 4 = .ok (.ifCond .eq 16, 3) := by decide +kernel
theorem dX1_followDevices_7 : decode cX1_followDevices 7 = .ok (.aload_n 0, 1) := by decide +kernel
theorem dX1_followDevices_8 : decode cX1_followDevices 8 = .ok (.getfield 25, 3) := by decide +kernel
theorem dX1_followDevices_11 : decode cX1_followDevices 11 = .ok (.bipush (-6), 2) := by decide +kernel
theorem dX1_followDevices_13 : decode cX1_followDevices 13 = .ok (.if_icmp .ne 7, 3) := by decide +kernel
theorem dX1_followDevices_16 : decode cX1_followDevices 16 = .ok (.iconst 1, 1) := by decide +kernel
theorem dX1_followDevices_17 : decode cX1_followDevices 17 = .ok (.goto 4, 3) := by decide +kernel
theorem dX1_followDevices_20 : decode cX1_followDevices 20 = .ok (.iconst 0, 1) := by decide +kernel
theorem dX1_followDevices_21 : decode cX1_followDevices 21 = .ok (.istore_n 1, 1) := by decide +kernel
theorem dX1_followDevices_22 : decode cX1_followDevices 22 = .ok (.iload_n 1, 1) := by decide +kernel
theorem dX1_followDevices_23 : decode cX1_followDevices 23 = .ok (.ifCond .eq 15, 3) := by decide +kernel
theorem dX1_followDevices_26 : decode cX1_followDevices 26 = .ok (.aload_n 0, 1) := by decide +kernel
theorem dX1_followDevices_27 : decode cX1_followDevices 27 = .ok (.getfield 18, 3) := by decide +kernel
theorem dX1_followDevices_30 : decode cX1_followDevices 30 = .ok (.ifCond .ne 8, 3) := by decide +kernel
theorem dX1_followDevices_33 : decode cX1_followDevices 33 = .ok (.aload_n 0, 1) := by decide +kernel
theorem dX1_followDevices_34 : decode cX1_followDevices 34 = .ok (.iconst 0, 1) := by decide +kernel
theorem dX1_followDevices_35 : decode cX1_followDevices 35 = .ok (.putfield 21, 3) := by decide +kernel
theorem dX1_followDevices_38 : decode cX1_followDevices 38 = .ok (.aload_n 0, 1) := by decide +kernel
theorem dX1_followDevices_39 : decode cX1_followDevices 39 = .ok (.iload_n 1, 1) := by decide +kernel
theorem dX1_followDevices_40 : decode cX1_followDevices 40 = .ok (.putfield 18, 3) := by decide +kernel
theorem dX1_followDevices_43 : decode cX1_followDevices 43 = .ok (.return_, 1) := by decide +kernel
theorem dX1_enterNest_0 : decode cX1_enterNest 0 = .ok (.aload_n 0, 1) := by decide +kernel
theorem dX1_enterNest_1 : decode cX1_enterNest 1 = .ok (.iload_n 1, 1) := by decide +kernel
theorem dX1_enterNest_2 : decode cX1_enterNest 2 = .ok (.putfield 25, 3) := by decide +kernel
theorem dX1_enterNest_5 : decode cX1_enterNest 5 = .ok (.aload_n 0, 1) := by decide +kernel
theorem dX1_enterNest_6 : decode cX1_enterNest 6 = .ok (.iconst 0, 1) := by decide +kernel
theorem dX1_enterNest_7 : decode cX1_enterNest 7 = .ok (.putfield 18, 3) := by decide +kernel
theorem dX1_enterNest_10 : decode cX1_enterNest 10 = .ok (.aload_n 0, 1) := by decide +kernel
theorem dX1_enterNest_11 : decode cX1_enterNest 11 = .ok (.dup, 1) := by decide +kernel
theorem dX1_enterNest_12 : decode cX1_enterNest 12 = .ok (.getfield 37, 3) := by decide +kernel
theorem dX1_enterNest_15 : decode cX1_enterNest 15 = .ok (.iconst 1, 1) := by decide +kernel
theorem dX1_enterNest_16 : decode cX1_enterNest 16 = .ok (.iadd, 1) := by decide +kernel
theorem dX1_enterNest_17 : decode cX1_enterNest 17 = .ok (.putfield 37, 3) := by decide +kernel
theorem dX1_enterNest_20 : decode cX1_enterNest 20 = .ok (.aload_n 0, 1) := by decide +kernel
theorem dX1_enterNest_21 : decode cX1_enterNest 21 = .ok (.dup, 1) := by decide +kernel
theorem dX1_enterNest_22 : decode cX1_enterNest 22 = .ok (.getfield 46, 3) := by decide +kernel
theorem dX1_enterNest_25 : decode cX1_enterNest 25 = .ok (.aload_n 0, 1) := by decide +kernel
theorem dX1_enterNest_26 : decode cX1_enterNest 26 = .ok (.getfield 21, 3) := by decide +kernel
theorem dX1_enterNest_29 : decode cX1_enterNest 29 = .ok (.iadd, 1) := by decide +kernel
theorem dX1_enterNest_30 : decode cX1_enterNest 30 = .ok (.putfield 46, 3) := by decide +kernel
theorem dX1_enterNest_33 : decode cX1_enterNest 33 = .ok (.aload_n 0, 1) := by decide +kernel
theorem dX1_enterNest_34 : decode cX1_enterNest 34 = .ok (.getfield 21, 3) := by decide +kernel
theorem dX1_enterNest_37 : decode cX1_enterNest 37 = .ok (.aload_n 0, 1) := by decide +kernel
theorem dX1_enterNest_38 : decode cX1_enterNest 38 = .ok (.getfield 43, 3) := by decide +kernel
theorem dX1_enterNest_41 : decode cX1_enterNest 41 = .ok (.if_icmp .le 11, 3) := by decide +kernel
theorem dX1_enterNest_44 : decode cX1_enterNest 44 = .ok (.aload_n 0, 1) := by decide +kernel
theorem dX1_enterNest_45 : decode cX1_enterNest 45 = .ok (.aload_n 0, 1) := by decide +kernel
theorem dX1_enterNest_46 : decode cX1_enterNest 46 = .ok (.getfield 21, 3) := by decide +kernel
theorem dX1_enterNest_49 : decode cX1_enterNest 49 = .ok (.putfield 43, 3) := by decide +kernel
theorem dX1_enterNest_52 : decode cX1_enterNest 52 = .ok (.aload_n 0, 1) := by decide +kernel
theorem dX1_enterNest_53 : decode cX1_enterNest 53 = .ok (.getfield 58, 3) := by decide +kernel
theorem dX1_enterNest_56 : decode cX1_enterNest 56 = .ok (.ifCond .le 24, 3) := by decide +kernel
theorem dX1_enterNest_59 : decode cX1_enterNest 59 = .ok (.aload_n 0, 1) := by decide +kernel
theorem dX1_enterNest_60 : decode cX1_enterNest 60 = .ok (.getfield 21, 3) := by decide +kernel
theorem dX1_enterNest_63 : decode cX1_enterNest 63 = .ok (.aload_n 0, 1) := by decide +kernel
theorem dX1_enterNest_64 : decode cX1_enterNest 64 = .ok (.getfield 58, 3) := by decide +kernel
theorem dX1_enterNest_67 : decode cX1_enterNest 67 = .ok (.if_icmp .le 13, 3) := by decide +kernel
theorem dX1_enterNest_70 : decode cX1_enterNest 70 = .ok (.aload_n 0, 1) := by decide +kernel
theorem dX1_enterNest_71 : decode cX1_enterNest 71 = .ok (.dup, 1) := by decide +kernel
theorem dX1_enterNest_72 : decode cX1_enterNest 72 = .ok (.getfield 49, 3) := by decide +kernel
theorem dX1_enterNest_75 : decode cX1_enterNest 75 = .ok (.iconst 1, 1) := by decide +kernel
theorem dX1_enterNest_76 : decode cX1_enterNest 76 = .ok (.iadd, 1) := by decide +kernel
theorem dX1_enterNest_77 : decode cX1_enterNest 77 = .ok (.putfield 49, 3) := by decide +kernel
theorem dX1_enterNest_80 : decode cX1_enterNest 80 = .ok (.return_, 1) := by decide +kernel
theorem dX1_leaveNest_0 : decode cX1_leaveNest 0 = .ok (.aload_n 0, 1) := by decide +kernel
theorem dX1_leaveNest_1 : decode cX1_leaveNest 1 = .ok (.bipush (-6), 2) := by decide +kernel
theorem dX1_leaveNest_3 : decode cX1_leaveNest 3 = .ok (.putfield 25, 3) := by decide +kernel
theorem dX1_leaveNest_6 : decode cX1_leaveNest 6 = .ok (.aload_n 0, 1) := by decide +kernel
theorem dX1_leaveNest_7 : decode cX1_leaveNest 7 = .ok (.dup, 1) := by decide +kernel
theorem dX1_leaveNest_8 : decode cX1_leaveNest 8 = .ok (.getfield 40, 3) := by decide +kernel
theorem dX1_leaveNest_11 : decode cX1_leaveNest 11 = .ok (.iconst 1, 1) := by decide +kernel
theorem dX1_leaveNest_12 : decode cX1_leaveNest 12 = .ok (.iadd, 1) := by decide +kernel
theorem dX1_leaveNest_13 : decode cX1_leaveNest 13 = .ok (.putfield 40, 3) := by decide +kernel
theorem dX1_leaveNest_16 : decode cX1_leaveNest 16 = .ok (.aload_n 0, 1) := by decide +kernel
theorem dX1_leaveNest_17 : decode cX1_leaveNest 17 = .ok (.getfield 9, 3) := by decide +kernel
theorem dX1_leaveNest_20 : decode cX1_leaveNest 20 = .ok (.ifCond .eq 22, 3) := by decide +kernel
theorem dX1_leaveNest_23 : decode cX1_leaveNest 23 = .ok (.aload_n 0, 1) := by decide +kernel
theorem dX1_leaveNest_24 : decode cX1_leaveNest 24 = .ok (.dup, 1) := by decide +kernel
theorem dX1_leaveNest_25 : decode cX1_leaveNest 25 = .ok (.getfield 28, 3) := by decide +kernel
theorem dX1_leaveNest_28 : decode cX1_leaveNest 28 = .ok (.aload_n 0, 1) := by decide +kernel
theorem dX1_leaveNest_29 : decode cX1_leaveNest 29 = .ok (.getfield 28, 3) := by decide +kernel
theorem dX1_leaveNest_32 : decode cX1_leaveNest 32 = .ok (.iconst 1, 1) := by decide +kernel
theorem dX1_leaveNest_33 : decode cX1_leaveNest 33 = .ok (.isub, 1) := by decide +kernel
theorem dX1_leaveNest_34 : decode cX1_leaveNest 34 = .ok (.iand, 1) := by decide +kernel
theorem dX1_leaveNest_35 : decode cX1_leaveNest 35 = .ok (.putfield 28, 3) := by decide +kernel
theorem dX1_leaveNest_38 : decode cX1_leaveNest 38 = .ok (.aload_n 0, 1) := by decide +kernel
theorem dX1_leaveNest_39 : decode cX1_leaveNest 39 = .ok (.invokevirtual 61, 3) := by decide +kernel
theorem dX1_leaveNest_42 : decode cX1_leaveNest 42 = .ok (.return_, 1) := by decide +kernel
theorem dX1_number_0 : decode cX1_number 0 = .ok (.iload_n 1, 1) := by decide +kernel
theorem dX1_number_1 : decode cX1_number 1 = .ok (.tableswitch 206 0 16 #[83, 88, 93, 98, 111, 124, 137, 154, 161, 166, 171, 176, 181, 186, 191, 196, 201], 83) := by decide +kernel
theorem dX1_number_84 : decode cX1_number 84 = .ok (.aload_n 0, 1) := by decide +kernel
theorem dX1_number_85 : decode cX1_number 85 = .ok (.getfield 52, 3) := by decide +kernel
theorem dX1_number_88 : decode cX1_number 88 = .ok (.ireturn, 1) := by decide +kernel
theorem dX1_number_89 : decode cX1_number 89 = .ok (.aload_n 0, 1) := by decide +kernel
theorem dX1_number_90 : decode cX1_number 90 = .ok (.getfield 55, 3) := by decide +kernel
theorem dX1_number_93 : decode cX1_number 93 = .ok (.ireturn, 1) := by decide +kernel
theorem dX1_number_94 : decode cX1_number 94 = .ok (.aload_n 0, 1) := by decide +kernel
theorem dX1_number_95 : decode cX1_number 95 = .ok (.getfield 58, 3) := by decide +kernel
theorem dX1_number_98 : decode cX1_number 98 = .ok (.ireturn, 1) := by decide +kernel
theorem dX1_number_99 : decode cX1_number 99 = .ok (.aload_n 0, 1) := by decide +kernel
theorem dX1_number_100 : decode cX1_number 100 = .ok (.getfield 9, 3) := by decide +kernel
theorem dX1_number_103 : decode cX1_number 103 = .ok (.ifCond .eq 7, 3) := by decide +kernel
theorem dX1_number_106 : decode cX1_number 106 = .ok (.iconst 1, 1) := by decide +kernel
theorem dX1_number_107 : decode cX1_number 107 = .ok (.goto 4, 3) := by decide +kernel
theorem dX1_number_110 : decode cX1_number 110 = .ok (.iconst 0, 1) := by decide +kernel
theorem dX1_number_111 : decode cX1_number 111 = .ok (.ireturn, 1) := by decide +kernel
theorem dX1_number_112 : decode cX1_number 112 = .ok (.aload_n 0, 1) := by decide +kernel
theorem dX1_number_113 : decode cX1_number 113 = .ok (.getfield 15, 3) := by decide +kernel
theorem dX1_number_116 : decode cX1_number 116 = .ok (.ifCond .eq 7, 3) := by decide +kernel
theorem dX1_number_119 : decode cX1_number 119 = .ok (.iconst 1, 1) := by decide +kernel
theorem dX1_number_120 : decode cX1_number 120 = .ok (.goto 4, 3) := by decide +kernel
theorem dX1_number_123 : decode cX1_number 123 = .ok (.iconst 0, 1) := by decide +kernel
theorem dX1_number_124 : decode cX1_number 124 = .ok (.ireturn, 1) := by decide +kernel
theorem dX1_number_125 : decode cX1_number 125 = .ok (.aload_n 0, 1) := by decide +kernel
theorem dX1_number_126 : decode cX1_number 126 = .ok (.getfield 18, 3) := by decide +kernel
theorem dX1_number_129 : decode cX1_number 129 = .ok (.ifCond .eq 7, 3) := by decide +kernel
theorem dX1_number_132 : decode cX1_number 132 = .ok (.iconst 1, 1) := by decide +kernel
theorem dX1_number_133 : decode cX1_number 133 = .ok (.goto 4, 3) := by decide +kernel
theorem dX1_number_136 : decode cX1_number 136 = .ok (.iconst 0, 1) := by decide +kernel
theorem dX1_number_137 : decode cX1_number 137 = .ok (.ireturn, 1) := by decide +kernel
theorem dX1_number_138 : decode cX1_number 138 = .ok (.aload_n 0, 1) := by decide +kernel
theorem dX1_number_139 : decode cX1_number 139 = .ok (.getfield 18, 3) := by decide +kernel
theorem dX1_number_142 : decode cX1_number 142 = .ok (.ifCond .eq 10, 3) := by decide +kernel
theorem dX1_number_145 : decode cX1_number 145 = .ok (.aload_n 0, 1) := by decide +kernel
theorem dX1_number_146 : decode cX1_number 146 = .ok (.getfield 21, 3) := by decide +kernel
theorem dX1_number_149 : decode cX1_number 149 = .ok (.goto 5, 3) := by decide +kernel
theorem dX1_number_152 : decode cX1_number 152 = .ok (.bipush (-6), 2) := by decide +kernel
theorem dX1_number_154 : decode cX1_number 154 = .ok (.ireturn, 1) := by decide +kernel
theorem dX1_number_155 : decode cX1_number 155 = .ok (.aload_n 0, 1) := by decide +kernel
theorem dX1_number_156 : decode cX1_number 156 = .ok (.iload_n 2, 1) := by decide +kernel
theorem dX1_number_157 : decode cX1_number 157 = .ok (.iload_n 3, 1) := by decide +kernel
theorem dX1_number_158 : decode cX1_number 158 = .ok (.invokevirtual 64, 3) := by decide +kernel
theorem dX1_number_161 : decode cX1_number 161 = .ok (.ireturn, 1) := by decide +kernel
theorem dX1_number_162 : decode cX1_number 162 = .ok (.aload_n 0, 1) := by decide +kernel
theorem dX1_number_163 : decode cX1_number 163 = .ok (.getfield 25, 3) := by decide +kernel
theorem dX1_number_166 : decode cX1_number 166 = .ok (.ireturn, 1) := by decide +kernel
theorem dX1_number_167 : decode cX1_number 167 = .ok (.aload_n 0, 1) := by decide +kernel
theorem dX1_number_168 : decode cX1_number 168 = .ok (.getfield 28, 3) := by decide +kernel
theorem dX1_number_171 : decode cX1_number 171 = .ok (.ireturn, 1) := by decide +kernel
theorem dX1_number_172 : decode cX1_number 172 = .ok (.aload_n 0, 1) := by decide +kernel
theorem dX1_number_173 : decode cX1_number 173 = .ok (.getfield 31, 3) := by decide +kernel
theorem dX1_number_176 : decode cX1_number 176 = .ok (.ireturn, 1) := by decide +kernel
theorem dX1_number_177 : decode cX1_number 177 = .ok (.aload_n 0, 1) := by decide +kernel
theorem dX1_number_178 : decode cX1_number 178 = .ok (.getfield 34, 3) := by decide +kernel
theorem dX1_number_181 : decode cX1_number 181 = .ok (.ireturn, 1) := by decide +kernel
theorem dX1_number_182 : decode cX1_number 182 = .ok (.aload_n 0, 1) := by decide +kernel
theorem dX1_number_183 : decode cX1_number 183 = .ok (.getfield 37, 3) := by decide +kernel
theorem dX1_number_186 : decode cX1_number 186 = .ok (.ireturn, 1) := by decide +kernel
theorem dX1_number_187 : decode cX1_number 187 = .ok (.aload_n 0, 1) := by decide +kernel
theorem dX1_number_188 : decode cX1_number 188 = .ok (.getfield 40, 3) := by decide +kernel
theorem dX1_number_191 : decode cX1_number 191 = .ok (.ireturn, 1) := by decide +kernel
theorem dX1_number_192 : decode cX1_number 192 = .ok (.aload_n 0, 1) := by decide +kernel
theorem dX1_number_193 : decode cX1_number 193 = .ok (.getfield 43, 3) := by decide +kernel
theorem dX1_number_196 : decode cX1_number 196 = .ok (.ireturn, 1) := by decide +kernel
theorem dX1_number_197 : decode cX1_number 197 = .ok (.aload_n 0, 1) := by decide +kernel
theorem dX1_number_198 : decode cX1_number 198 = .ok (.getfield 46, 3) := by decide +kernel
theorem dX1_number_201 : decode cX1_number 201 = .ok (.ireturn, 1) := by decide +kernel
theorem dX1_number_202 : decode cX1_number 202 = .ok (.aload_n 0, 1) := by decide +kernel
theorem dX1_number_203 : decode cX1_number 203 = .ok (.getfield 49, 3) := by decide +kernel
theorem dX1_number_206 : decode cX1_number 206 = .ok (.ireturn, 1) := by decide +kernel
theorem dX1_number_207 : decode cX1_number 207 = .ok (.bipush (-2), 2) := by decide +kernel
theorem dX1_number_209 : decode cX1_number 209 = .ok (.ireturn, 1) := by decide +kernel
theorem dX2_init_0 : decode cX2_init 0 = .ok (.aload_n 0, 1) := by decide +kernel
theorem dX2_init_1 : decode cX2_init 1 = .ok (.invokespecial 3, 3) := by decide +kernel
theorem dX2_init_4 : decode cX2_init 4 = .ok (.aload_n 0, 1) := by decide +kernel
theorem dX2_init_5 : decode cX2_init 5 = .ok (.bipush 80, 2) := by decide +kernel
theorem dX2_init_7 : decode cX2_init 7 = .ok (.newarray .char, 2) := by decide +kernel
theorem dX2_init_9 : decode cX2_init 9 = .ok (.putfield 9, 3) := by decide +kernel
theorem dX2_init_12 : decode cX2_init 12 = .ok (.return_, 1) := by decide +kernel
theorem dX2_append_0 : decode cX2_append 0 = .ok (.lload_n 1, 1) := by decide +kernel
theorem dX2_append_1 : decode cX2_append 1 = .ok (.invokestatic 15, 3) := by decide +kernel
theorem dX2_append_4 : decode cX2_append 4 = .ok (.istore_n 3, 1) := by decide +kernel
theorem dX2_append_5 : decode cX2_append 5 = .ok (.iload_n 3, 1) := by decide +kernel
theorem dX2_append_6 : decode cX2_append 6 = .ok (.ifCond .ne 6, 3) := by decide +kernel
theorem dX2_append_9 : decode cX2_append 9 = .ok (.bipush (-2), 2) := by decide +kernel
theorem dX2_append_11 : decode cX2_append 11 = .ok (.ireturn, 1) := by decide +kernel
theorem dX2_append_12 : decode cX2_append 12 = .ok (.aload_n 0, 1) := by decide +kernel
theorem dX2_append_13 : decode cX2_append 13 = .ok (.getfield 19, 3) := by decide +kernel
theorem dX2_append_16 : decode cX2_append 16 = .ok (.iload_n 3, 1) := by decide +kernel
theorem dX2_append_17 : decode cX2_append 17 = .ok (.iadd, 1) := by decide +kernel
theorem dX2_append_18 : decode cX2_append 18 = .ok (.bipush 80, 2) := by decide +kernel
theorem dX2_append_20 : decode cX2_append 20 = .ok (.if_icmp .le 6, 3) := by decide +kernel
theorem dX2_append_23 : decode cX2_append 23 = .ok (.bipush (-4), 2) := by decide +kernel
theorem dX2_append_25 : decode cX2_append 25 = .ok (.ireturn, 1) := by decide +kernel
theorem dX2_append_26 : decode cX2_append 26 = .ok (.aload_n 0, 1) := by decide +kernel
theorem dX2_append_27 : decode cX2_append 27 = .ok (.dup, 1) := by decide +kernel
theorem dX2_append_28 : decode cX2_append 28 = .ok (.getfield 19, 3) := by decide +kernel
theorem dX2_append_31 : decode cX2_append 31 = .ok (.iload_n 3, 1) := by decide +kernel
theorem dX2_append_32 : decode cX2_append 32 = .ok (.iadd, 1) := by decide +kernel
theorem dX2_append_33 : decode cX2_append 33 = .ok (.putfield 19, 3) := by decide +kernel
theorem dX2_append_36 : decode cX2_append 36 = .ok (.iconst 0, 1) := by decide +kernel
theorem dX2_append_37 : decode cX2_append 37 = .ok (.istore 4, 2) := by decide +kernel
theorem dX2_append_39 : decode cX2_append 39 = .ok (.iload 4, 2) := by decide +kernel
theorem dX2_append_41 : decode cX2_append 41 = .ok (.iload_n 3, 1) := by decide +kernel
theorem dX2_append_42 : decode cX2_append 42 = .ok (.if_icmp .ge 36, 3) := by decide +kernel
theorem dX2_append_45 : decode cX2_append 45 = .ok (.aload_n 0, 1) := by decide +kernel
theorem dX2_append_46 : decode cX2_append 46 = .ok (.getfield 9, 3) := by decide +kernel
theorem dX2_append_49 : decode cX2_append 49 = .ok (.aload_n 0, 1) := by decide +kernel
theorem dX2_append_50 : decode cX2_append 50 = .ok (.getfield 19, 3) := by decide +kernel
theorem dX2_append_53 : decode cX2_append 53 = .ok (.iconst 1, 1) := by decide +kernel
theorem dX2_append_54 : decode cX2_append 54 = .ok (.isub, 1) := by decide +kernel
theorem dX2_append_55 : decode cX2_append 55 = .ok (.iload 4, 2) := by decide +kernel
theorem dX2_append_57 : decode cX2_append 57 = .ok (.isub, 1) := by decide +kernel
theorem dX2_append_58 : decode cX2_append 58 = .ok (.lload_n 1, 1) := by decide +kernel
theorem dX2_append_59 : decode cX2_append 59 = .ok (.bipush 8, 2) := by decide +kernel
theorem dX2_append_61 : decode cX2_append 61 = .ok (.iload 4, 2) := by decide +kernel
theorem dX2_append_63 : decode cX2_append 63 = .ok (.imul, 1) := by decide +kernel
theorem dX2_append_64 : decode cX2_append 64 = .ok (.lushr, 1) := by decide +kernel
theorem dX2_append_65 : decode cX2_append 65 = .ok (.ldc2_w 23, 3) := by decide +kernel
theorem dX2_append_68 : decode cX2_append 68 = .ok (.land, 1) := by decide +kernel
theorem dX2_append_69 : decode cX2_append 69 = .ok (.l2i, 1) := by decide +kernel
theorem dX2_append_70 : decode cX2_append 70 = .ok (.i2c, 1) := by decide +kernel
theorem dX2_append_71 : decode cX2_append 71 = .ok (.castore, 1) := by decide +kernel
theorem dX2_append_72 : decode cX2_append 72 = .ok (.iinc 4 1, 3) := by decide +kernel
theorem dX2_append_75 : decode cX2_append 75 = .ok (.goto (-36), 3) := by decide +kernel
theorem dX2_append_78 : decode cX2_append 78 = .ok (.aload_n 0, 1) := by decide +kernel
theorem dX2_append_79 : decode cX2_append 79 = .ok (.getfield 19, 3) := by decide +kernel
theorem dX2_append_82 : decode cX2_append 82 = .ok (.ireturn, 1) := by decide +kernel
theorem dX2_lengthOf_0 : decode cX2_lengthOf 0 = .ok (.iconst 0, 1) := by decide +kernel
theorem dX2_lengthOf_1 : decode cX2_lengthOf 1 = .ok (.istore_n 2, 1) := by decide +kernel
theorem dX2_lengthOf_2 : decode cX2_lengthOf 2 = .ok (.iload_n 2, 1) := by decide +kernel
theorem dX2_lengthOf_3 : decode cX2_lengthOf 3 = .ok (.bipush 8, 2) := by decide +kernel
theorem dX2_lengthOf_5 : decode cX2_lengthOf 5 = .ok (.if_icmp .ge 42, 3) := by decide +kernel
theorem dX2_lengthOf_8 : decode cX2_lengthOf 8 = .ok (.lload_n 0, 1) := by decide +kernel
theorem dX2_lengthOf_9 : decode cX2_lengthOf 9 = .ok (.bipush 8, 2) := by decide +kernel
theorem dX2_lengthOf_11 : decode cX2_lengthOf 11 = .ok (.iload_n 2, 1) := by decide +kernel
theorem dX2_lengthOf_12 : decode cX2_lengthOf 12 = .ok (.imul, 1) := by decide +kernel
theorem dX2_lengthOf_13 : decode cX2_lengthOf 13 = .ok (.lushr, 1) := by decide +kernel
theorem dX2_lengthOf_14 : decode cX2_lengthOf 14 = .ok (.lstore_n 3, 1) := by decide +kernel
theorem dX2_lengthOf_15 : decode cX2_lengthOf 15 = .ok (.lload_n 3, 1) := by decide +kernel
theorem dX2_lengthOf_16 : decode cX2_lengthOf 16 = .ok (.lconst 0, 1) := by decide +kernel
theorem dX2_lengthOf_17 : decode cX2_lengthOf 17 = .ok (.lcmp, 1) := by decide +kernel
theorem dX2_lengthOf_18 : decode cX2_lengthOf 18 = .ok (.ifCond .ne 5, 3) := by decide +kernel
theorem dX2_lengthOf_21 : decode cX2_lengthOf 21 = .ok (.iload_n 2, 1) := by decide +kernel
theorem dX2_lengthOf_22 : decode cX2_lengthOf 22 = .ok (.ireturn, 1) := by decide +kernel
theorem dX2_lengthOf_23 : decode cX2_lengthOf 23 = .ok (.lload_n 3, 1) := by decide +kernel
theorem dX2_lengthOf_24 : decode cX2_lengthOf 24 = .ok (.ldc2_w 23, 3) := by decide +kernel
theorem dX2_lengthOf_27 : decode cX2_lengthOf 27 = .ok (.land, 1) := by decide +kernel
theorem dX2_lengthOf_28 : decode cX2_lengthOf 28 = .ok (.l2i, 1) := by decide +kernel
theorem dX2_lengthOf_29 : decode cX2_lengthOf 29 = .ok (.bipush 33, 2) := by decide +kernel
theorem dX2_lengthOf_31 : decode cX2_lengthOf 31 = .ok (.bipush 126, 2) := by decide +kernel
theorem dX2_lengthOf_33 : decode cX2_lengthOf 33 = .ok (.invokestatic 25, 3) := by decide +kernel
theorem dX2_lengthOf_36 : decode cX2_lengthOf 36 = .ok (.ifCond .ne 5, 3) := by decide +kernel
theorem dX2_lengthOf_39 : decode cX2_lengthOf 39 = .ok (.iconst 0, 1) := by decide +kernel
theorem dX2_lengthOf_40 : decode cX2_lengthOf 40 = .ok (.ireturn, 1) := by decide +kernel
theorem dX2_lengthOf_41 : decode cX2_lengthOf 41 = .ok (.iinc 2 1, 3) := by decide +kernel
theorem dX2_lengthOf_44 : decode cX2_lengthOf 44 = .ok (.goto (-42), 3) := by decide +kernel
theorem dX2_lengthOf_47 : decode cX2_lengthOf 47 = .ok (.bipush 8, 2) := by decide +kernel
theorem dX2_lengthOf_49 : decode cX2_lengthOf 49 = .ok (.ireturn, 1) := by decide +kernel
theorem dX2_clear_0 : decode cX2_clear 0 = .ok (.aload_n 0, 1) := by decide +kernel
theorem dX2_clear_1 : decode cX2_clear 1 = .ok (.getfield 19, 3) := by decide +kernel
theorem dX2_clear_4 : decode cX2_clear 4 = .ok (.istore_n 1, 1) := by decide +kernel
theorem dX2_clear_5 : decode cX2_clear 5 = .ok (.aload_n 0, 1) := by decide +kernel
theorem dX2_clear_6 : decode cX2_clear 6 = .ok (.iconst 0, 1) := by decide +kernel
theorem dX2_clear_7 : decode cX2_clear 7 = .ok (.putfield 19, 3) := by decide +kernel
theorem dX2_clear_10 : decode cX2_clear 10 = .ok (.iload_n 1, 1) := by decide +kernel
theorem dX2_clear_11 : decode cX2_clear 11 = .ok (.ireturn, 1) := by decide +kernel
theorem dX2_firstFault_0 : decode cX2_firstFault 0 = .ok (.iconst 1, 1) := by decide +kernel
theorem dX2_firstFault_1 : decode cX2_firstFault 1 = .ok (.istore_n 1, 1) := by decide +kernel
theorem dX2_firstFault_2 : decode cX2_firstFault 2 = .ok (.iconst 0, 1) := by decide +kernel
theorem dX2_firstFault_3 : decode cX2_firstFault 3 = .ok (.istore_n 2, 1) := by decide +kernel
theorem dX2_firstFault_4 : decode cX2_firstFault 4 = .ok (.iload_n 2, 1) := by decide +kernel
theorem dX2_firstFault_5 : decode cX2_firstFault 5 = .ok (.aload_n 0, 1) := by decide +kernel
theorem dX2_firstFault_6 : decode cX2_firstFault 6 = .ok (.getfield 19, 3) := by decide +kernel
theorem dX2_firstFault_9 : decode cX2_firstFault 9 = .ok (.if_icmp .ge 26, 3) := by decide +kernel
theorem dX2_firstFault_12 : decode cX2_firstFault 12 = .ok (.iload_n 1, 1) := by decide +kernel
theorem dX2_firstFault_13 : decode cX2_firstFault 13 = .ok (.aload_n 0, 1) := by decide +kernel
theorem dX2_firstFault_14 : decode cX2_firstFault 14 = .ok (.getfield 9, 3) := by decide +kernel
theorem dX2_firstFault_17 : decode cX2_firstFault 17 = .ok (.iload_n 2, 1) := by decide +kernel
theorem dX2_firstFault_18 : decode cX2_firstFault 18 = .ok (.caload, 1) := by decide +kernel
theorem dX2_firstFault_19 : decode cX2_firstFault 19 = .ok (.invokestatic 29, 3) := by decide +kernel
theorem dX2_firstFault_22 : decode cX2_firstFault 22 = .ok (.istore_n 1, 1) := by decide +kernel
theorem dX2_firstFault_23 : decode cX2_firstFault 23 = .ok (.iload_n 1, 1) := by decide +kernel
theorem dX2_firstFault_24 : decode cX2_firstFault 24 = .ok (.ifCond .ne 5, 3) := by decide +kernel
theorem dX2_firstFault_27 : decode cX2_firstFault 27 = .ok (.iload_n 2, 1) := by decide +kernel
theorem dX2_firstFault_28 : decode cX2_firstFault 28 = .ok (.ireturn, 1) := by decide +kernel
theorem dX2_firstFault_29 : decode cX2_firstFault 29 = .ok (.iinc 2 1, 3) := by decide +kernel
theorem dX2_firstFault_32 : decode cX2_firstFault 32 = .ok (.goto (-28), 3) := by decide +kernel
theorem dX2_firstFault_35 : decode cX2_firstFault 35 = .ok (.iload_n 1, 1) := by decide +kernel
theorem dX2_firstFault_36 : decode cX2_firstFault 36 = .ok (.invokestatic 33, 3) := by decide +kernel
theorem dX2_firstFault_39 : decode cX2_firstFault 39 = .ok (.ifCond .eq 8, 3) := by decide +kernel
theorem dX2_firstFault_42 : decode cX2_firstFault 42 = .ok (.bipush (-6), 2) := by decide +kernel
theorem dX2_firstFault_44 : decode cX2_firstFault 44 = .ok (.goto 7, 3) := by decide +kernel
theorem dX2_firstFault_47 : decode cX2_firstFault 47 = .ok (.aload_n 0, 1) := by decide +kernel
theorem dX2_firstFault_48 : decode cX2_firstFault 48 = .ok (.getfield 19, 3) := by decide +kernel
theorem dX2_firstFault_51 : decode cX2_firstFault 51 = .ok (.ireturn, 1) := by decide +kernel
theorem dX2_mayEnd_0 : decode cX2_mayEnd 0 = .ok (.iload_n 0, 1) := by decide +kernel
theorem dX2_mayEnd_1 : decode cX2_mayEnd 1 = .ok (.bipush 8, 2) := by decide +kernel
theorem dX2_mayEnd_3 : decode cX2_mayEnd 3 = .ok (.if_icmp .eq 15, 3) := by decide +kernel
theorem dX2_mayEnd_6 : decode cX2_mayEnd 6 = .ok (.iload_n 0, 1) := by decide +kernel
theorem dX2_mayEnd_7 : decode cX2_mayEnd 7 = .ok (.bipush 6, 2) := by decide +kernel
theorem dX2_mayEnd_9 : decode cX2_mayEnd 9 = .ok (.if_icmp .eq 9, 3) := by decide +kernel
theorem dX2_mayEnd_12 : decode cX2_mayEnd 12 = .ok (.iload_n 0, 1) := by decide +kernel
theorem dX2_mayEnd_13 : decode cX2_mayEnd 13 = .ok (.bipush 7, 2) := by decide +kernel
theorem dX2_mayEnd_15 : decode cX2_mayEnd 15 = .ok (.if_icmp .ne 7, 3) := by decide +kernel
theorem dX2_mayEnd_18 : decode cX2_mayEnd 18 = .ok (.iconst 1, 1) := by decide +kernel
theorem dX2_mayEnd_19 : decode cX2_mayEnd 19 = .ok (.goto 4, 3) := by decide +kernel
theorem dX2_mayEnd_22 : decode cX2_mayEnd 22 = .ok (.iconst 0, 1) := by decide +kernel
theorem dX2_mayEnd_23 : decode cX2_mayEnd 23 = .ok (.ireturn, 1) := by decide +kernel
theorem dX2_dueAfter_0 : decode cX2_dueAfter 0 = .ok (.iload_n 1, 1) := by decide +kernel
theorem dX2_dueAfter_1 : decode cX2_dueAfter 1 = .ok (.bipush 59, 2) := by decide +kernel
theorem dX2_dueAfter_3 : decode cX2_dueAfter 3 = .ok (.if_icmp .ne 16, 3) := by decide +kernel
theorem dX2_dueAfter_6 : decode cX2_dueAfter 6 = .ok (.iload_n 0, 1) := by decide +kernel
theorem dX2_dueAfter_7 : decode cX2_dueAfter 7 = .ok (.invokestatic 33, 3) := by decide +kernel
theorem dX2_dueAfter_10 : decode cX2_dueAfter 10 = .ok (.ifCond .eq 7, 3) := by decide +kernel
theorem dX2_dueAfter_13 : decode cX2_dueAfter 13 = .ok (.iconst 1, 1) := by decide +kernel
theorem dX2_dueAfter_14 : decode cX2_dueAfter 14 = .ok (.goto 4, 3) := by decide +kernel
theorem dX2_dueAfter_17 : decode cX2_dueAfter 17 = .ok (.iconst 0, 1) := by decide +kernel
theorem dX2_dueAfter_18 : decode cX2_dueAfter 18 = .ok (.ireturn, 1) := by decide +kernel
theorem dX2_dueAfter_19 : decode cX2_dueAfter 19 = .ok (.iload_n 0, 1) := by decide +kernel
theorem dX2_dueAfter_20 : decode cX2_dueAfter 20 = .ok (.tableswitch 134 1 7 #[44, 49, 67, 84, 102, 120, 127], 44) := by decide +kernel
theorem dX2_dueAfter_64 : decode cX2_dueAfter 64 = .ok (.iload_n 1, 1) := by decide +kernel
theorem dX2_dueAfter_65 : decode cX2_dueAfter 65 = .ok (.invokestatic 37, 3) := by decide +kernel
theorem dX2_dueAfter_68 : decode cX2_dueAfter 68 = .ok (.ireturn, 1) := by decide +kernel
theorem dX2_dueAfter_69 : decode cX2_dueAfter 69 = .ok (.iload_n 1, 1) := by decide +kernel
theorem dX2_dueAfter_70 : decode cX2_dueAfter 70 = .ok (.bipush 65, 2) := by decide +kernel
theorem dX2_dueAfter_72 : decode cX2_dueAfter 72 = .ok (.bipush 76, 2) := by decide +kernel
theorem dX2_dueAfter_74 : decode cX2_dueAfter 74 = .ok (.invokestatic 25, 3) := by decide +kernel
theorem dX2_dueAfter_77 : decode cX2_dueAfter 77 = .ok (.ifCond .eq 8, 3) := by decide +kernel
theorem dX2_dueAfter_80 : decode cX2_dueAfter 80 = .ok (.bipush 8, 2) := by decide +kernel
theorem dX2_dueAfter_82 : decode cX2_dueAfter 82 = .ok (.goto 4, 3) := by decide +kernel
theorem dX2_dueAfter_85 : decode cX2_dueAfter 85 = .ok (.iconst 0, 1) := by decide +kernel
theorem dX2_dueAfter_86 : decode cX2_dueAfter 86 = .ok (.ireturn, 1) := by decide +kernel
theorem dX2_dueAfter_87 : decode cX2_dueAfter 87 = .ok (.iload_n 1, 1) := by decide +kernel
theorem dX2_dueAfter_88 : decode cX2_dueAfter 88 = .ok (.bipush 65, 2) := by decide +kernel
theorem dX2_dueAfter_90 : decode cX2_dueAfter 90 = .ok (.bipush 76, 2) := by decide +kernel
theorem dX2_dueAfter_92 : decode cX2_dueAfter 92 = .ok (.invokestatic 25, 3) := by decide +kernel
theorem dX2_dueAfter_95 : decode cX2_dueAfter 95 = .ok (.ifCond .eq 7, 3) := by decide +kernel
theorem dX2_dueAfter_98 : decode cX2_dueAfter 98 = .ok (.iconst 4, 1) := by decide +kernel
theorem dX2_dueAfter_99 : decode cX2_dueAfter 99 = .ok (.goto 4, 3) := by decide +kernel
theorem dX2_dueAfter_102 : decode cX2_dueAfter 102 = .ok (.iconst 0, 1) := by decide +kernel
theorem dX2_dueAfter_103 : decode cX2_dueAfter 103 = .ok (.ireturn, 1) := by decide +kernel
theorem dX2_dueAfter_104 : decode cX2_dueAfter 104 = .ok (.iload_n 1, 1) := by decide +kernel
theorem dX2_dueAfter_105 : decode cX2_dueAfter 105 = .ok (.bipush 48, 2) := by decide +kernel
theorem dX2_dueAfter_107 : decode cX2_dueAfter 107 = .ok (.bipush 51, 2) := by decide +kernel
theorem dX2_dueAfter_109 : decode cX2_dueAfter 109 = .ok (.invokestatic 25, 3) := by decide +kernel
theorem dX2_dueAfter_112 : decode cX2_dueAfter 112 = .ok (.ifCond .eq 8, 3) := by decide +kernel
theorem dX2_dueAfter_115 : decode cX2_dueAfter 115 = .ok (.bipush 8, 2) := by decide +kernel
theorem dX2_dueAfter_117 : decode cX2_dueAfter 117 = .ok (.goto 4, 3) := by decide +kernel
theorem dX2_dueAfter_120 : decode cX2_dueAfter 120 = .ok (.iconst 0, 1) := by decide +kernel
theorem dX2_dueAfter_121 : decode cX2_dueAfter 121 = .ok (.ireturn, 1) := by decide +kernel
theorem dX2_dueAfter_122 : decode cX2_dueAfter 122 = .ok (.iload_n 1, 1) := by decide +kernel
theorem dX2_dueAfter_123 : decode cX2_dueAfter 123 = .ok (.bipush 48, 2) := by decide +kernel
theorem dX2_dueAfter_125 : decode cX2_dueAfter 125 = .ok (.if_icmp .ne 8, 3) := by decide +kernel
theorem dX2_dueAfter_128 : decode cX2_dueAfter 128 = .ok (.bipush 8, 2) := by decide +kernel
theorem dX2_dueAfter_130 : decode cX2_dueAfter 130 = .ok (.goto 9, 3) := by decide +kernel
theorem dX2_dueAfter_133 : decode cX2_dueAfter 133 = .ok (.iload_n 1, 1) := by decide +kernel
theorem dX2_dueAfter_134 : decode cX2_dueAfter 134 = .ok (.bipush 6, 2) := by decide +kernel
theorem dX2_dueAfter_136 : decode cX2_dueAfter 136 = .ok (.invokestatic 41, 3) := by decide +kernel
theorem dX2_dueAfter_139 : decode cX2_dueAfter 139 = .ok (.ireturn, 1) := by decide +kernel
theorem dX2_dueAfter_140 : decode cX2_dueAfter 140 = .ok (.iload_n 1, 1) := by decide +kernel
theorem dX2_dueAfter_141 : decode cX2_dueAfter 141 = .ok (.bipush 7, 2) := by decide +kernel
theorem dX2_dueAfter_143 : decode cX2_dueAfter 143 = .ok (.invokestatic 41, 3) := by decide +kernel
theorem dX2_dueAfter_146 : decode cX2_dueAfter 146 = .ok (.ireturn, 1) := by decide +kernel
theorem dX2_dueAfter_147 : decode cX2_dueAfter 147 = .ok (.iload_n 1, 1) := by decide +kernel
theorem dX2_dueAfter_148 : decode cX2_dueAfter 148 = .ok (.bipush 8, 2) := by decide +kernel
theorem dX2_dueAfter_150 : decode cX2_dueAfter 150 = .ok (.invokestatic 41, 3) := by decide +kernel
theorem dX2_dueAfter_153 : decode cX2_dueAfter 153 = .ok (.ireturn, 1) := by decide +kernel
theorem dX2_dueAfter_154 : decode cX2_dueAfter 154 = .ok (.iconst 0, 1) := by decide +kernel
theorem dX2_dueAfter_155 : decode cX2_dueAfter 155 = .ok (.ireturn, 1) := by decide +kernel
theorem dX2_dueAfterOrder_0 : decode cX2_dueAfterOrder 0 = .ok (.iload_n 0, 1) := by decide +kernel
theorem dX2_dueAfterOrder_1 : decode cX2_dueAfterOrder 1 = .ok (.tableswitch 77 104 117 #[73, 77, 77, 77, 73, 71, 71, 77, 77, 77, 77, 77, 75, 71], 71) := by decide +kernel
theorem dX2_dueAfterOrder_72 : decode cX2_dueAfterOrder 72 = .ok (.iconst 2, 1) := by decide +kernel
theorem dX2_dueAfterOrder_73 : decode cX2_dueAfterOrder 73 = .ok (.ireturn, 1) := by decide +kernel
theorem dX2_dueAfterOrder_74 : decode cX2_dueAfterOrder 74 = .ok (.iconst 3, 1) := by decide +kernel
theorem dX2_dueAfterOrder_75 : decode cX2_dueAfterOrder 75 = .ok (.ireturn, 1) := by decide +kernel
theorem dX2_dueAfterOrder_76 : decode cX2_dueAfterOrder 76 = .ok (.iconst 5, 1) := by decide +kernel
theorem dX2_dueAfterOrder_77 : decode cX2_dueAfterOrder 77 = .ok (.ireturn, 1) := by decide +kernel
theorem dX2_dueAfterOrder_78 : decode cX2_dueAfterOrder 78 = .ok (.iconst 0, 1) := by decide +kernel
theorem dX2_dueAfterOrder_79 : decode cX2_dueAfterOrder 79 = .ok (.ireturn, 1) := by decide +kernel
theorem dX2_dueAfterDigit_0 : decode cX2_dueAfterDigit 0 = .ok (.iload_n 0, 1) := by decide +kernel
theorem dX2_dueAfterDigit_1 : decode cX2_dueAfterDigit 1 = .ok (.bipush 48, 2) := by decide +kernel
theorem dX2_dueAfterDigit_3 : decode cX2_dueAfterDigit 3 = .ok (.bipush 57, 2) := by decide +kernel
theorem dX2_dueAfterDigit_5 : decode cX2_dueAfterDigit 5 = .ok (.invokestatic 25, 3) := by decide +kernel
theorem dX2_dueAfterDigit_8 : decode cX2_dueAfterDigit 8 = .ok (.ifCond .eq 7, 3) := by decide +kernel
theorem dX2_dueAfterDigit_11 : decode cX2_dueAfterDigit 11 = .ok (.iload_n 1, 1) := by decide +kernel
theorem dX2_dueAfterDigit_12 : decode cX2_dueAfterDigit 12 = .ok (.goto 4, 3) := by decide +kernel
theorem dX2_dueAfterDigit_15 : decode cX2_dueAfterDigit 15 = .ok (.iconst 0, 1) := by decide +kernel
theorem dX2_dueAfterDigit_16 : decode cX2_dueAfterDigit 16 = .ok (.ireturn, 1) := by decide +kernel
theorem dX2_signAt_0 : decode cX2_signAt 0 = .ok (.iload_n 1, 1) := by decide +kernel
theorem dX2_signAt_1 : decode cX2_signAt 1 = .ok (.iconst 0, 1) := by decide +kernel
theorem dX2_signAt_2 : decode cX2_signAt 2 = .ok (.aload_n 0, 1) := by decide +kernel
theorem dX2_signAt_3 : decode cX2_signAt 3 = .ok (.getfield 19, 3) := by decide +kernel
theorem dX2_signAt_6 : decode cX2_signAt 6 = .ok (.iconst 1, 1) := by decide +kernel
theorem dX2_signAt_7 : decode cX2_signAt 7 = .ok (.isub, 1) := by decide +kernel
theorem dX2_signAt_8 : decode cX2_signAt 8 = .ok (.invokestatic 25, 3) := by decide +kernel
theorem dX2_signAt_11 : decode cX2_signAt 11 = .ok (.ifCond .eq 12, 3) := by decide +kernel
theorem dX2_signAt_14 : decode cX2_signAt 14 = .ok (.aload_n 0, 1) := by decide +kernel
theorem dX2_signAt_15 : decode cX2_signAt 15 = .ok (.getfield 9, 3) := by decide +kernel
theorem dX2_signAt_18 : decode cX2_signAt 18 = .ok (.iload_n 1, 1) := by decide +kernel
theorem dX2_signAt_19 : decode cX2_signAt 19 = .ok (.caload, 1) := by decide +kernel
theorem dX2_signAt_20 : decode cX2_signAt 20 = .ok (.goto 4, 3) := by decide +kernel
theorem dX2_signAt_23 : decode cX2_signAt 23 = .ok (.iconst 0, 1) := by decide +kernel
theorem dX2_signAt_24 : decode cX2_signAt 24 = .ok (.ireturn, 1) := by decide +kernel
theorem dX2_orderEndsAt_0 : decode cX2_orderEndsAt 0 = .ok (.iload_n 1, 1) := by decide +kernel
theorem dX2_orderEndsAt_1 : decode cX2_orderEndsAt 1 = .ok (.aload_n 0, 1) := by decide +kernel
theorem dX2_orderEndsAt_2 : decode cX2_orderEndsAt 2 = .ok (.getfield 19, 3) := by decide +kernel
theorem dX2_orderEndsAt_5 : decode cX2_orderEndsAt 5 = .ok (.if_icmp .eq 13, 3) := by decide +kernel
theorem dX2_orderEndsAt_8 : decode cX2_orderEndsAt 8 = .ok (.aload_n 0, 1) := by decide +kernel
theorem dX2_orderEndsAt_9 : decode cX2_orderEndsAt 9 = .ok (.iload_n 1, 1) := by decide +kernel
theorem dX2_orderEndsAt_10 : decode cX2_orderEndsAt 10 = .ok (.invokevirtual 45, 3) := by decide +kernel
theorem dX2_orderEndsAt_13 : decode cX2_orderEndsAt 13 = .ok (.bipush 59, 2) := by decide +kernel
theorem dX2_orderEndsAt_15 : decode cX2_orderEndsAt 15 = .ok (.if_icmp .ne 7, 3) := by decide +kernel
theorem dX2_orderEndsAt_18 : decode cX2_orderEndsAt 18 = .ok (.iconst 1, 1) := by decide +kernel
theorem dX2_orderEndsAt_19 : decode cX2_orderEndsAt 19 = .ok (.goto 4, 3) := by decide +kernel
theorem dX2_orderEndsAt_22 : decode cX2_orderEndsAt 22 = .ok (.iconst 0, 1) := by decide +kernel
theorem dX2_orderEndsAt_23 : decode cX2_orderEndsAt 23 = .ok (.ireturn, 1) := by decide +kernel
theorem dX2_numberBetween_0 : decode cX2_numberBetween 0 = .ok (.iconst 0, 1) := by decide +kernel
theorem dX2_numberBetween_1 : decode cX2_numberBetween 1 = .ok (.istore_n 3, 1) := by decide +kernel
theorem dX2_numberBetween_2 : decode cX2_numberBetween 2 = .ok (.iload_n 1, 1) := by decide +kernel
theorem dX2_numberBetween_3 : decode cX2_numberBetween 3 = .ok (.istore 4, 2) := by decide +kernel
theorem dX2_numberBetween_5 : decode cX2_numberBetween 5 = .ok (.iload 4, 2) := by decide +kernel
theorem dX2_numberBetween_7 : decode cX2_numberBetween 7 = .ok (.iload_n 2, 1) := by decide +kernel
theorem dX2_numberBetween_8 : decode cX2_numberBetween 8 = .ok (.if_icmp .ge 24, 3) := by decide +kernel
theorem dX2_numberBetween_11 : decode cX2_numberBetween 11 = .ok (.bipush 10, 2) := by decide +kernel
theorem dX2_numberBetween_13 : decode cX2_numberBetween 13 = .ok (.iload_n 3, 1) := by decide +kernel
theorem dX2_numberBetween_14 : decode cX2_numberBetween 14 = .ok (.imul, 1) := by decide +kernel
theorem dX2_numberBetween_15 : decode cX2_numberBetween 15 = .ok (.aload_n 0, 1) := by decide +kernel
theorem dX2_numberBetween_16 : decode cX2_numberBetween 16 = .ok (.iload 4, 2) := by decide +kernel
theorem dX2_numberBetween_18 : decode cX2_numberBetween 18 = .ok (.invokevirtual 45, 3) := by decide +kernel
theorem dX2_numberBetween_21 : decode cX2_numberBetween 21 = .ok (.iadd, 1) := by decide +kernel
theorem dX2_numberBetween_22 : decode cX2_numberBetween 22 = .ok (.bipush 48, 2) := by decide +kernel
theorem dX2_numberBetween_24 : decode cX2_numberBetween 24 = .ok (.isub, 1) := by decide +kernel
theorem dX2_numberBetween_25 : decode cX2_numberBetween 25 = .ok (.istore_n 3, 1) := by decide +kernel
theorem dX2_numberBetween_26 : decode cX2_numberBetween 26 = .ok (.iinc 4 1, 3) := by decide +kernel
theorem dX2_numberBetween_29 : decode cX2_numberBetween 29 = .ok (.goto (-24), 3) := by decide +kernel
theorem dX2_numberBetween_32 : decode cX2_numberBetween 32 = .ok (.iload_n 3, 1) := by decide +kernel
theorem dX2_numberBetween_33 : decode cX2_numberBetween 33 = .ok (.ireturn, 1) := by decide +kernel
theorem dX3_init_0 : decode cX3_init 0 = .ok (.aload_n 0, 1) := by decide +kernel
theorem dX3_init_1 : decode cX3_init 1 = .ok (.invokespecial 3, 3) := by decide +kernel
theorem dX3_init_4 : decode cX3_init 4 = .ok (.aload_n 0, 1) := by decide +kernel
theorem dX3_init_5 : decode cX3_init 5 = .ok (.getstatic 9, 3) := by decide +kernel
theorem dX3_init_8 : decode cX3_init 8 = .ok (.invokevirtual 13, 3) := by decide +kernel
theorem dX3_init_11 : decode cX3_init 11 = .ok (.checkcast 14, 3) := by decide +kernel
theorem dX3_init_14 : decode cX3_init 14 = .ok (.putfield 18, 3) := by decide +kernel
theorem dX3_init_17 : decode cX3_init 17 = .ok (.aload_n 0, 1) := by decide +kernel
theorem dX3_init_18 : decode cX3_init 18 = .ok (.bipush 12, 2) := by decide +kernel
theorem dX3_init_20 : decode cX3_init 20 = .ok (.anewarray 23, 3) := by decide +kernel
theorem dX3_init_23 : decode cX3_init 23 = .ok (.putfield 25, 3) := by decide +kernel
theorem dX3_init_26 : decode cX3_init 26 = .ok (.iconst 0, 1) := by decide +kernel
theorem dX3_init_27 : decode cX3_init 27 = .ok (.istore_n 1, 1) := by decide +kernel
theorem dX3_init_28 : decode cX3_init 28 = .ok (.iload_n 1, 1) := by decide +kernel
theorem dX3_init_29 : decode cX3_init 29 = .ok (.bipush 12, 2) := by decide +kernel
theorem dX3_init_31 : decode cX3_init 31 = .ok (.if_icmp .ge 22, 3) := by decide +kernel
theorem dX3_init_34 : decode cX3_init 34 = .ok (.aload_n 0, 1) := by decide +kernel
theorem dX3_init_35 : decode cX3_init 35 = .ok (.getfield 25, 3) := by decide +kernel
theorem dX3_init_38 : decode cX3_init 38 = .ok (.iload_n 1, 1) := by decide +kernel
theorem dX3_init_39 : decode cX3_init 39 = .ok (.new 23, 3) := by decide +kernel
theorem dX3_init_42 : decode cX3_init 42 = .ok (.dup, 1) := by decide +kernel
theorem dX3_init_43 : decode cX3_init 43 = .ok (.invokespecial 29, 3) := by decide +kernel
theorem dX3_init_46 : decode cX3_init 46 = .ok (.aastore, 1) := by decide +kernel
theorem dX3_init_47 : decode cX3_init 47 = .ok (.iinc 1 1, 3) := by decide +kernel
theorem dX3_init_50 : decode cX3_init 50 = .ok (.goto (-22), 3) := by decide +kernel
theorem dX3_init_53 : decode cX3_init 53 = .ok (.aload_n 0, 1) := by decide +kernel
theorem dX3_init_54 : decode cX3_init 54 = .ok (.bipush 6, 2) := by decide +kernel
theorem dX3_init_56 : decode cX3_init 56 = .ok (.anewarray 30, 3) := by decide +kernel
theorem dX3_init_59 : decode cX3_init 59 = .ok (.putfield 32, 3) := by decide +kernel
theorem dX3_init_62 : decode cX3_init 62 = .ok (.iconst 0, 1) := by decide +kernel
theorem dX3_init_63 : decode cX3_init 63 = .ok (.istore_n 1, 1) := by decide +kernel
theorem dX3_init_64 : decode cX3_init 64 = .ok (.iload_n 1, 1) := by decide +kernel
theorem dX3_init_65 : decode cX3_init 65 = .ok (.bipush 6, 2) := by decide +kernel
theorem dX3_init_67 : decode cX3_init 67 = .ok (.if_icmp .ge 22, 3) := by decide +kernel
theorem dX3_init_70 : decode cX3_init 70 = .ok (.aload_n 0, 1) := by decide +kernel
theorem dX3_init_71 : decode cX3_init 71 = .ok (.getfield 32, 3) := by decide +kernel
theorem dX3_init_74 : decode cX3_init 74 = .ok (.iload_n 1, 1) := by decide +kernel
theorem dX3_init_75 : decode cX3_init 75 = .ok (.new 30, 3) := by decide +kernel
theorem dX3_init_78 : decode cX3_init 78 = .ok (.dup, 1) := by decide +kernel
theorem dX3_init_79 : decode cX3_init 79 = .ok (.invokespecial 36, 3) := by decide +kernel
theorem dX3_init_82 : decode cX3_init 82 = .ok (.aastore, 1) := by decide +kernel
theorem dX3_init_83 : decode cX3_init 83 = .ok (.iinc 1 1, 3) := by decide +kernel
theorem dX3_init_86 : decode cX3_init 86 = .ok (.goto (-22), 3) := by decide +kernel
theorem dX3_init_89 : decode cX3_init 89 = .ok (.aload_n 0, 1) := by decide +kernel
theorem dX3_init_90 : decode cX3_init 90 = .ok (.bipush 8, 2) := by decide +kernel
theorem dX3_init_92 : decode cX3_init 92 = .ok (.anewarray 37, 3) := by decide +kernel
theorem dX3_init_95 : decode cX3_init 95 = .ok (.putfield 39, 3) := by decide +kernel
theorem dX3_init_98 : decode cX3_init 98 = .ok (.iconst 0, 1) := by decide +kernel
theorem dX3_init_99 : decode cX3_init 99 = .ok (.istore_n 1, 1) := by decide +kernel
theorem dX3_init_100 : decode cX3_init 100 = .ok (.iload_n 1, 1) := by decide +kernel
theorem dX3_init_101 : decode cX3_init 101 = .ok (.bipush 8, 2) := by decide +kernel
theorem dX3_init_103 : decode cX3_init 103 = .ok (.if_icmp .ge 22, 3) := by decide +kernel
theorem dX3_init_106 : decode cX3_init 106 = .ok (.aload_n 0, 1) := by decide +kernel
theorem dX3_init_107 : decode cX3_init 107 = .ok (.getfield 39, 3) := by decide +kernel
theorem dX3_init_110 : decode cX3_init 110 = .ok (.iload_n 1, 1) := by decide +kernel
theorem dX3_init_111 : decode cX3_init 111 = .ok (.new 37, 3) := by decide +kernel
theorem dX3_init_114 : decode cX3_init 114 = .ok (.dup, 1) := by decide +kernel
theorem dX3_init_115 : decode cX3_init 115 = .ok (.invokespecial 43, 3) := by decide +kernel
theorem dX3_init_118 : decode cX3_init 118 = .ok (.aastore, 1) := by decide +kernel
theorem dX3_init_119 : decode cX3_init 119 = .ok (.iinc 1 1, 3) := by decide +kernel
theorem dX3_init_122 : decode cX3_init 122 = .ok (.goto (-22), 3) := by decide +kernel
theorem dX3_init_125 : decode cX3_init 125 = .ok (.return_, 1) := by decide +kernel
theorem dX3_copyFrom_0 : decode cX3_copyFrom 0 = .ok (.aload_n 0, 1) := by decide +kernel
theorem dX3_copyFrom_1 : decode cX3_copyFrom 1 = .ok (.aload_n 1, 1) := by decide +kernel
theorem dX3_copyFrom_2 : decode cX3_copyFrom 2 = .ok (.getfield 44, 3) := by decide +kernel
theorem dX3_copyFrom_5 : decode cX3_copyFrom 5 = .ok (.putfield 44, 3) := by decide +kernel
theorem dX3_copyFrom_8 : decode cX3_copyFrom 8 = .ok (.aload_n 1, 1) := by decide +kernel
theorem dX3_copyFrom_9 : decode cX3_copyFrom 9 = .ok (.getfield 18, 3) := by decide +kernel
theorem dX3_copyFrom_12 : decode cX3_copyFrom 12 = .ok (.iconst 0, 1) := by decide +kernel
theorem dX3_copyFrom_13 : decode cX3_copyFrom 13 = .ok (.aload_n 0, 1) := by decide +kernel
theorem dX3_copyFrom_14 : decode cX3_copyFrom 14 = .ok (.getfield 18, 3) := by decide +kernel
theorem dX3_copyFrom_17 : decode cX3_copyFrom 17 = .ok (.iconst 0, 1) := by decide +kernel
theorem dX3_copyFrom_18 : decode cX3_copyFrom 18 = .ok (.aload_n 0, 1) := by decide +kernel
theorem dX3_copyFrom_19 : decode cX3_copyFrom 19 = .ok (.getfield 18, 3) := by decide +kernel
theorem dX3_copyFrom_22 : decode cX3_copyFrom 22 = .ok (.arraylength, 1) := by decide +kernel
theorem dX3_copyFrom_23 : decode cX3_copyFrom 23 = .ok (.invokestatic 48, 3) := by decide +kernel
theorem dX3_copyFrom_26 : decode cX3_copyFrom 26 = .ok (.aload_n 0, 1) := by decide +kernel
theorem dX3_copyFrom_27 : decode cX3_copyFrom 27 = .ok (.aload_n 1, 1) := by decide +kernel
theorem dX3_copyFrom_28 : decode cX3_copyFrom 28 = .ok (.getfield 54, 3) := by decide +kernel
theorem dX3_copyFrom_31 : decode cX3_copyFrom 31 = .ok (.putfield 54, 3) := by decide +kernel
theorem dX3_copyFrom_34 : decode cX3_copyFrom 34 = .ok (.iconst 0, 1) := by decide +kernel
theorem dX3_copyFrom_35 : decode cX3_copyFrom 35 = .ok (.istore_n 2, 1) := by decide +kernel
theorem dX3_copyFrom_36 : decode cX3_copyFrom 36 = .ok (.iload_n 2, 1) := by decide +kernel
theorem dX3_copyFrom_37 : decode cX3_copyFrom 37 = .ok (.aload_n 0, 1) := by decide +kernel
theorem dX3_copyFrom_38 : decode cX3_copyFrom 38 = .ok (.getfield 54, 3) := by decide +kernel
theorem dX3_copyFrom_41 : decode cX3_copyFrom 41 = .ok (.if_icmp .ge 24, 3) := by decide +kernel
theorem dX3_copyFrom_44 : decode cX3_copyFrom 44 = .ok (.aload_n 0, 1) := by decide +kernel
theorem dX3_copyFrom_45 : decode cX3_copyFrom 45 = .ok (.getfield 25, 3) := by decide +kernel
theorem dX3_copyFrom_48 : decode cX3_copyFrom 48 = .ok (.iload_n 2, 1) := by decide +kernel
theorem dX3_copyFrom_49 : decode cX3_copyFrom 49 = .ok (.aaload, 1) := by decide +kernel
theorem dX3_copyFrom_50 : decode cX3_copyFrom 50 = .ok (.aload_n 1, 1) := by decide +kernel
theorem dX3_copyFrom_51 : decode cX3_copyFrom 51 = .ok (.getfield 25, 3) := by decide +kernel
theorem dX3_copyFrom_54 : decode cX3_copyFrom 54 = .ok (.iload_n 2, 1) := by decide +kernel
theorem dX3_copyFrom_55 : decode cX3_copyFrom 55 = .ok (.aaload, 1) := by decide +kernel
theorem dX3_copyFrom_56 : decode cX3_copyFrom 56 = .ok (.invokevirtual 57, 3) := by decide +kernel
theorem dX3_copyFrom_59 : decode cX3_copyFrom 59 = .ok (.iinc 2 1, 3) := by decide +kernel
theorem dX3_copyFrom_62 : decode cX3_copyFrom 62 = .ok (.goto (-26), 3) := by decide +kernel
theorem dX3_copyFrom_65 : decode cX3_copyFrom 65 = .ok (.aload_n 0, 1) := by decide +kernel
theorem dX3_copyFrom_66 : decode cX3_copyFrom 66 = .ok (.aload_n 1, 1) := by decide +kernel
theorem dX3_copyFrom_67 : decode cX3_copyFrom 67 = .ok (.getfield 61, 3) := by decide +kernel
theorem dX3_copyFrom_70 : decode cX3_copyFrom 70 = .ok (.putfield 61, 3) := by decide +kernel
theorem dX3_copyFrom_73 : decode cX3_copyFrom 73 = .ok (.iconst 0, 1) := by decide +kernel
theorem dX3_copyFrom_74 : decode cX3_copyFrom 74 = .ok (.istore_n 2, 1) := by decide +kernel
theorem dX3_copyFrom_75 : decode cX3_copyFrom 75 = .ok (.iload_n 2, 1) := by decide +kernel
theorem dX3_copyFrom_76 : decode cX3_copyFrom 76 = .ok (.aload_n 0, 1) := by decide +kernel
theorem dX3_copyFrom_77 : decode cX3_copyFrom 77 = .ok (.getfield 61, 3) := by decide +kernel
theorem dX3_copyFrom_80 : decode cX3_copyFrom 80 = .ok (.if_icmp .ge 24, 3) := by decide +kernel
theorem dX3_copyFrom_83 : decode cX3_copyFrom 83 = .ok (.aload_n 0, 1) := by decide +kernel
theorem dX3_copyFrom_84 : decode cX3_copyFrom 84 = .ok (.getfield 32, 3) := by decide +kernel
theorem dX3_copyFrom_87 : decode cX3_copyFrom 87 = .ok (.iload_n 2, 1) := by decide +kernel
theorem dX3_copyFrom_88 : decode cX3_copyFrom 88 = .ok (.aaload, 1) := by decide +kernel
theorem dX3_copyFrom_89 : decode cX3_copyFrom 89 = .ok (.aload_n 1, 1) := by decide +kernel
theorem dX3_copyFrom_90 : decode cX3_copyFrom 90 = .ok (.getfield 32, 3) := by decide +kernel
theorem dX3_copyFrom_93 : decode cX3_copyFrom 93 = .ok (.iload_n 2, 1) := by decide +kernel
theorem dX3_copyFrom_94 : decode cX3_copyFrom 94 = .ok (.aaload, 1) := by decide +kernel
theorem dX3_copyFrom_95 : decode cX3_copyFrom 95 = .ok (.invokevirtual 64, 3) := by decide +kernel
theorem dX3_copyFrom_98 : decode cX3_copyFrom 98 = .ok (.iinc 2 1, 3) := by decide +kernel
theorem dX3_copyFrom_101 : decode cX3_copyFrom 101 = .ok (.goto (-26), 3) := by decide +kernel
theorem dX3_copyFrom_104 : decode cX3_copyFrom 104 = .ok (.aload_n 0, 1) := by decide +kernel
theorem dX3_copyFrom_105 : decode cX3_copyFrom 105 = .ok (.aload_n 1, 1) := by decide +kernel
theorem dX3_copyFrom_106 : decode cX3_copyFrom 106 = .ok (.getfield 67, 3) := by decide +kernel
theorem dX3_copyFrom_109 : decode cX3_copyFrom 109 = .ok (.putfield 67, 3) := by decide +kernel
theorem dX3_copyFrom_112 : decode cX3_copyFrom 112 = .ok (.iconst 0, 1) := by decide +kernel
theorem dX3_copyFrom_113 : decode cX3_copyFrom 113 = .ok (.istore_n 2, 1) := by decide +kernel
theorem dX3_copyFrom_114 : decode cX3_copyFrom 114 = .ok (.iload_n 2, 1) := by decide +kernel
theorem dX3_copyFrom_115 : decode cX3_copyFrom 115 = .ok (.aload_n 0, 1) := by decide +kernel
theorem dX3_copyFrom_116 : decode cX3_copyFrom 116 = .ok (.getfield 67, 3) := by decide +kernel
theorem dX3_copyFrom_119 : decode cX3_copyFrom 119 = .ok (.if_icmp .ge 24, 3) := by decide +kernel
theorem dX3_copyFrom_122 : decode cX3_copyFrom 122 = .ok (.aload_n 0, 1) := by decide +kernel
theorem dX3_copyFrom_123 : decode cX3_copyFrom 123 = .ok (.getfield 39, 3) := by decide +kernel
theorem dX3_copyFrom_126 : decode cX3_copyFrom 126 = .ok (.iload_n 2, 1) := by decide +kernel
theorem dX3_copyFrom_127 : decode cX3_copyFrom 127 = .ok (.aaload, 1) := by decide +kernel
theorem dX3_copyFrom_128 : decode cX3_copyFrom 128 = .ok (.aload_n 1, 1) := by decide +kernel
theorem dX3_copyFrom_129 : decode cX3_copyFrom 129 = .ok (.getfield 39, 3) := by decide +kernel
theorem dX3_copyFrom_132 : decode cX3_copyFrom 132 = .ok (.iload_n 2, 1) := by decide +kernel
theorem dX3_copyFrom_133 : decode cX3_copyFrom 133 = .ok (.aaload, 1) := by decide +kernel
theorem dX3_copyFrom_134 : decode cX3_copyFrom 134 = .ok (.invokevirtual 70, 3) := by decide +kernel
theorem dX3_copyFrom_137 : decode cX3_copyFrom 137 = .ok (.iinc 2 1, 3) := by decide +kernel
theorem dX3_copyFrom_140 : decode cX3_copyFrom 140 = .ok (.goto (-26), 3) := by decide +kernel
theorem dX3_copyFrom_143 : decode cX3_copyFrom 143 = .ok (.aload_n 0, 1) := by decide +kernel
theorem dX3_copyFrom_144 : decode cX3_copyFrom 144 = .ok (.aload_n 1, 1) := by decide +kernel
theorem dX3_copyFrom_145 : decode cX3_copyFrom 145 = .ok (.getfield 73, 3) := by decide +kernel
theorem dX3_copyFrom_148 : decode cX3_copyFrom 148 = .ok (.putfield 73, 3) := by decide +kernel
theorem dX3_copyFrom_151 : decode cX3_copyFrom 151 = .ok (.aload_n 0, 1) := by decide +kernel
theorem dX3_copyFrom_152 : decode cX3_copyFrom 152 = .ok (.aload_n 1, 1) := by decide +kernel
theorem dX3_copyFrom_153 : decode cX3_copyFrom 153 = .ok (.getfield 76, 3) := by decide +kernel
theorem dX3_copyFrom_156 : decode cX3_copyFrom 156 = .ok (.putfield 76, 3) := by decide +kernel
theorem dX3_copyFrom_159 : decode cX3_copyFrom 159 = .ok (.aload_n 0, 1) := by decide +kernel
theorem dX3_copyFrom_160 : decode cX3_copyFrom 160 = .ok (.aload_n 1, 1) := by decide +kernel
theorem dX3_copyFrom_161 : decode cX3_copyFrom 161 = .ok (.getfield 79, 3) := by decide +kernel
theorem dX3_copyFrom_164 : decode cX3_copyFrom 164 = .ok (.putfield 79, 3) := by decide +kernel
theorem dX3_copyFrom_167 : decode cX3_copyFrom 167 = .ok (.return_, 1) := by decide +kernel
theorem dX3_hasLine_0 : decode cX3_hasLine 0 = .ok (.iload_n 1, 1) := by decide +kernel
theorem dX3_hasLine_1 : decode cX3_hasLine 1 = .ok (.iconst 0, 1) := by decide +kernel
theorem dX3_hasLine_2 : decode cX3_hasLine 2 = .ok (.aload_n 0, 1) := by decide +kernel
theorem dX3_hasLine_3 : decode cX3_hasLine 3 = .ok (.getfield 54, 3) := by decide +kernel
theorem dX3_hasLine_6 : decode cX3_hasLine 6 = .ok (.iconst 1, 1) := by decide +kernel
theorem dX3_hasLine_7 : decode cX3_hasLine 7 = .ok (.isub, 1) := by decide +kernel
theorem dX3_hasLine_8 : decode cX3_hasLine 8 = .ok (.invokestatic 82, 3) := by decide +kernel
theorem dX3_hasLine_11 : decode cX3_hasLine 11 = .ok (.ireturn, 1) := by decide +kernel
theorem dX3_hasTimer_0 : decode cX3_hasTimer 0 = .ok (.iload_n 1, 1) := by decide +kernel
theorem dX3_hasTimer_1 : decode cX3_hasTimer 1 = .ok (.iconst 0, 1) := by decide +kernel
theorem dX3_hasTimer_2 : decode cX3_hasTimer 2 = .ok (.aload_n 0, 1) := by decide +kernel
theorem dX3_hasTimer_3 : decode cX3_hasTimer 3 = .ok (.getfield 61, 3) := by decide +kernel
theorem dX3_hasTimer_6 : decode cX3_hasTimer 6 = .ok (.iconst 1, 1) := by decide +kernel
theorem dX3_hasTimer_7 : decode cX3_hasTimer 7 = .ok (.isub, 1) := by decide +kernel
theorem dX3_hasTimer_8 : decode cX3_hasTimer 8 = .ok (.invokestatic 82, 3) := by decide +kernel
theorem dX3_hasTimer_11 : decode cX3_hasTimer 11 = .ok (.ireturn, 1) := by decide +kernel
theorem dX3_changeSetting_0 : decode cX3_changeSetting 0 = .ok (.iload_n 1, 1) := by decide +kernel
theorem dX3_changeSetting_1 : decode cX3_changeSetting 1 = .ok (.iconst 0, 1) := by decide +kernel
theorem dX3_changeSetting_2 : decode cX3_changeSetting 2 = .ok (.aload_n 0, 1) := by decide +kernel
theorem dX3_changeSetting_3 : decode cX3_changeSetting 3 = .ok (.getfield 18, 3) := by decide +kernel
theorem dX3_changeSetting_6 : decode cX3_changeSetting 6 = .ok (.arraylength, 1) := by decide +kernel
theorem dX3_changeSetting_7 : decode cX3_changeSetting 7 = .ok (.iconst 1, 1) := by decide +kernel
theorem dX3_changeSetting_8 : decode cX3_changeSetting 8 = .ok (.isub, 1) := by decide +kernel
theorem dX3_changeSetting_9 : decode cX3_changeSetting 9 = .ok (.invokestatic 82, 3) := by decide +kernel
theorem dX3_changeSetting_12 : decode cX3_changeSetting 12 = .ok (.ifCond .ne 6, 3) := by decide +kernel
theorem dX3_changeSetting_15 : decode cX3_changeSetting 15 = .ok (.bipush (-2), 2) := by decide +kernel
theorem dX3_changeSetting_17 : decode cX3_changeSetting 17 = .ok (.ireturn, 1) := by decide +kernel
theorem dX3_changeSetting_18 : decode cX3_changeSetting 18 = .ok (.iload_n 2, 1) := by decide +kernel
theorem dX3_changeSetting_19 : decode cX3_changeSetting 19 = .ok (.getstatic 86, 3) := by decide +kernel
theorem dX3_changeSetting_22 : decode cX3_changeSetting 22 = .ok (.iload_n 1, 1) := by decide +kernel
theorem dX3_changeSetting_23 : decode cX3_changeSetting 23 = .ok (.iaload, 1) := by decide +kernel
theorem dX3_changeSetting_24 : decode cX3_changeSetting 24 = .ok (.getstatic 89, 3) := by decide +kernel
theorem dX3_changeSetting_27 : decode cX3_changeSetting 27 = .ok (.iload_n 1, 1) := by decide +kernel
theorem dX3_changeSetting_28 : decode cX3_changeSetting 28 = .ok (.iaload, 1) := by decide +kernel
theorem dX3_changeSetting_29 : decode cX3_changeSetting 29 = .ok (.invokestatic 82, 3) := by decide +kernel
theorem dX3_changeSetting_32 : decode cX3_changeSetting 32 = .ok (.ifCond .ne 6, 3) := by decide +kernel
theorem dX3_changeSetting_35 : decode cX3_changeSetting 35 = .ok (.bipush (-2), 2) := by decide +kernel
theorem dX3_changeSetting_37 : decode cX3_changeSetting 37 = .ok (.ireturn, 1) := by decide +kernel
theorem dX3_changeSetting_38 : decode cX3_changeSetting 38 = .ok (.aload_n 0, 1) := by decide +kernel
theorem dX3_changeSetting_39 : decode cX3_changeSetting 39 = .ok (.getfield 18, 3) := by decide +kernel
theorem dX3_changeSetting_42 : decode cX3_changeSetting 42 = .ok (.iload_n 1, 1) := by decide +kernel
theorem dX3_changeSetting_43 : decode cX3_changeSetting 43 = .ok (.iaload, 1) := by decide +kernel
theorem dX3_changeSetting_44 : decode cX3_changeSetting 44 = .ok (.istore_n 3, 1) := by decide +kernel
theorem dX3_changeSetting_45 : decode cX3_changeSetting 45 = .ok (.aload_n 0, 1) := by decide +kernel
theorem dX3_changeSetting_46 : decode cX3_changeSetting 46 = .ok (.getfield 18, 3) := by decide +kernel
theorem dX3_changeSetting_49 : decode cX3_changeSetting 49 = .ok (.iload_n 1, 1) := by decide +kernel
theorem dX3_changeSetting_50 : decode cX3_changeSetting 50 = .ok (.iload_n 2, 1) := by decide +kernel
theorem dX3_changeSetting_51 : decode cX3_changeSetting 51 = .ok (.iastore, 1) := by decide +kernel
theorem dX3_changeSetting_52 : decode cX3_changeSetting 52 = .ok (.iload_n 3, 1) := by decide +kernel
theorem dX3_changeSetting_53 : decode cX3_changeSetting 53 = .ok (.ireturn, 1) := by decide +kernel
theorem dX3_addLine_0 : decode cX3_addLine 0 = .ok (.iload_n 1, 1) := by decide +kernel
theorem dX3_addLine_1 : decode cX3_addLine 1 = .ok (.iload_n 2, 1) := by decide +kernel
theorem dX3_addLine_2 : decode cX3_addLine 2 = .ok (.iload_n 3, 1) := by decide +kernel
theorem dX3_addLine_3 : decode cX3_addLine 3 = .ok (.invokestatic 92, 3) := by decide +kernel
theorem dX3_addLine_6 : decode cX3_addLine 6 = .ok (.ifCond .eq 13, 3) := by decide +kernel
theorem dX3_addLine_9 : decode cX3_addLine 9 = .ok (.iload 4, 2) := by decide +kernel
theorem dX3_addLine_11 : decode cX3_addLine 11 = .ok (.iconst 0, 1) := by decide +kernel
theorem dX3_addLine_12 : decode cX3_addLine 12 = .ok (.iconst 1, 1) := by decide +kernel
theorem dX3_addLine_13 : decode cX3_addLine 13 = .ok (.invokestatic 82, 3) := by decide +kernel
theorem dX3_addLine_16 : decode cX3_addLine 16 = .ok (.ifCond .ne 6, 3) := by decide +kernel
theorem dX3_addLine_19 : decode cX3_addLine 19 = .ok (.bipush (-2), 2) := by decide +kernel
theorem dX3_addLine_21 : decode cX3_addLine 21 = .ok (.ireturn, 1) := by decide +kernel
theorem dX3_addLine_22 : decode cX3_addLine 22 = .ok (.aload_n 0, 1) := by decide +kernel
theorem dX3_addLine_23 : decode cX3_addLine 23 = .ok (.getfield 54, 3) := by decide +kernel
theorem dX3_addLine_26 : decode cX3_addLine 26 = .ok (.bipush 12, 2) := by decide +kernel
theorem dX3_addLine_28 : decode cX3_addLine 28 = .ok (.if_icmp .lt 6, 3) := by decide +kernel
theorem dX3_addLine_31 : decode cX3_addLine 31 = .ok (.bipush (-4), 2) := by decide +kernel
theorem dX3_addLine_33 : decode cX3_addLine 33 = .ok (.ireturn, 1) := by decide +kernel
theorem dX3_addLine_34 : decode cX3_addLine 34 = .ok (.aload_n 0, 1) := by decide +kernel
theorem dX3_addLine_35 : decode cX3_addLine 35 = .ok (.getfield 25, 3) := by decide +kernel
theorem dX3_addLine_38 : decode cX3_addLine 38 = .ok (.aload_n 0, 1) := by decide +kernel
theorem dX3_addLine_39 : decode cX3_addLine 39 = .ok (.getfield 54, 3) := by decide +kernel
theorem dX3_addLine_42 : decode cX3_addLine 42 = .ok (.aaload, 1) := by decide +kernel
theorem dX3_addLine_43 : decode cX3_addLine 43 = .ok (.iload 4, 2) := by decide +kernel
theorem dX3_addLine_45 : decode cX3_addLine 45 = .ok (.iconst 1, 1) := by decide +kernel
theorem dX3_addLine_46 : decode cX3_addLine 46 = .ok (.if_icmp .ne 7, 3) := by decide +kernel
theorem dX3_addLine_49 : decode cX3_addLine 49 = .ok (.iconst 1, 1) := by decide +kernel
theorem dX3_addLine_50 : decode cX3_addLine 50 = .ok (.goto 4, 3) := by decide +kernel
theorem dX3_addLine_53 : decode cX3_addLine 53 = .ok (.iconst 0, 1) := by decide +kernel
theorem dX3_addLine_54 : decode cX3_addLine 54 = .ok (.invokevirtual 95, 3) := by decide +kernel
theorem dX3_addLine_57 : decode cX3_addLine 57 = .ok (.aload_n 0, 1) := by decide +kernel
theorem dX3_addLine_58 : decode cX3_addLine 58 = .ok (.getfield 25, 3) := by decide +kernel
theorem dX3_addLine_61 : decode cX3_addLine 61 = .ok (.aload_n 0, 1) := by decide +kernel
theorem dX3_addLine_62 : decode cX3_addLine 62 = .ok (.getfield 54, 3) := by decide +kernel
theorem dX3_addLine_65 : decode cX3_addLine 65 = .ok (.aaload, 1) := by decide +kernel
theorem dX3_addLine_66 : decode cX3_addLine 66 = .ok (.iload_n 1, 1) := by decide +kernel
theorem dX3_addLine_67 : decode cX3_addLine 67 = .ok (.iload_n 2, 1) := by decide +kernel
theorem dX3_addLine_68 : decode cX3_addLine 68 = .ok (.iload_n 3, 1) := by decide +kernel
theorem dX3_addLine_69 : decode cX3_addLine 69 = .ok (.invokevirtual 99, 3) := by decide +kernel
theorem dX3_addLine_72 : decode cX3_addLine 72 = .ok (.aload_n 0, 1) := by decide +kernel
theorem dX3_addLine_73 : decode cX3_addLine 73 = .ok (.dup, 1) := by decide +kernel
theorem dX3_addLine_74 : decode cX3_addLine 74 = .ok (.getfield 54, 3) := by decide +kernel
theorem dX3_addLine_77 : decode cX3_addLine 77 = .ok (.iconst 1, 1) := by decide +kernel
theorem dX3_addLine_78 : decode cX3_addLine 78 = .ok (.iadd, 1) := by decide +kernel
theorem dX3_addLine_79 : decode cX3_addLine 79 = .ok (.putfield 54, 3) := by decide +kernel
theorem dX3_addLine_82 : decode cX3_addLine 82 = .ok (.aload_n 0, 1) := by decide +kernel
theorem dX3_addLine_83 : decode cX3_addLine 83 = .ok (.getfield 54, 3) := by decide +kernel
theorem dX3_addLine_86 : decode cX3_addLine 86 = .ok (.iconst 1, 1) := by decide +kernel
theorem dX3_addLine_87 : decode cX3_addLine 87 = .ok (.isub, 1) := by decide +kernel
theorem dX3_addLine_88 : decode cX3_addLine 88 = .ok (.ireturn, 1) := by decide +kernel
theorem dX3_changeLine_0 : decode cX3_changeLine 0 = .ok (.aload_n 0, 1) := by decide +kernel
theorem dX3_changeLine_1 : decode cX3_changeLine 1 = .ok (.iload_n 1, 1) := by decide +kernel
theorem dX3_changeLine_2 : decode cX3_changeLine 2 = .ok (.invokevirtual 103, 3) := by decide +kernel
theorem dX3_changeLine_5 : decode cX3_changeLine 5 = .ok (.ifCond .ne 5, 3) := by decide +kernel
theorem dX3_changeLine_8 : decode cX3_changeLine 8 = .ok (.iconst (-1), 1) := by decide +kernel
theorem dX3_changeLine_9 : decode cX3_changeLine 9 = .ok (.ireturn, 1) := by decide +kernel
theorem dX3_changeLine_10 : decode cX3_changeLine 10 = .ok (.iload_n 2, 1) := by decide +kernel
theorem dX3_changeLine_11 : decode cX3_changeLine 11 = .ok (.iload_n 3, 1) := by decide +kernel
theorem dX3_changeLine_12 : decode cX3_changeLine 12 = .ok (.iload 4, 2) := by decide +kernel
theorem dX3_changeLine_14 : decode cX3_changeLine 14 = .ok (.invokestatic 92, 3) := by decide +kernel
theorem dX3_changeLine_17 : decode cX3_changeLine 17 = .ok (.ifCond .ne 6, 3) := by decide +kernel
theorem dX3_changeLine_20 : decode cX3_changeLine 20 = .ok (.bipush (-2), 2) := by decide +kernel
theorem dX3_changeLine_22 : decode cX3_changeLine 22 = .ok (.ireturn, 1) := by decide +kernel
theorem dX3_changeLine_23 : decode cX3_changeLine 23 = .ok (.aload_n 0, 1) := by decide +kernel
theorem dX3_changeLine_24 : decode cX3_changeLine 24 = .ok (.getfield 25, 3) := by decide +kernel
theorem dX3_changeLine_27 : decode cX3_changeLine 27 = .ok (.iload_n 1, 1) := by decide +kernel
theorem dX3_changeLine_28 : decode cX3_changeLine 28 = .ok (.aaload, 1) := by decide +kernel
theorem dX3_changeLine_29 : decode cX3_changeLine 29 = .ok (.getfield 107, 3) := by decide +kernel
theorem dX3_changeLine_32 : decode cX3_changeLine 32 = .ok (.istore 5, 2) := by decide +kernel
theorem dX3_changeLine_34 : decode cX3_changeLine 34 = .ok (.aload_n 0, 1) := by decide +kernel
theorem dX3_changeLine_35 : decode cX3_changeLine 35 = .ok (.getfield 25, 3) := by decide +kernel
theorem dX3_changeLine_38 : decode cX3_changeLine 38 = .ok (.iload_n 1, 1) := by decide +kernel
theorem dX3_changeLine_39 : decode cX3_changeLine 39 = .ok (.aaload, 1) := by decide +kernel
theorem dX3_changeLine_40 : decode cX3_changeLine 40 = .ok (.iload_n 2, 1) := by decide +kernel
theorem dX3_changeLine_41 : decode cX3_changeLine 41 = .ok (.iload_n 3, 1) := by decide +kernel
theorem dX3_changeLine_42 : decode cX3_changeLine 42 = .ok (.iload 4, 2) := by decide +kernel
theorem dX3_changeLine_44 : decode cX3_changeLine 44 = .ok (.invokevirtual 99, 3) := by decide +kernel
theorem dX3_changeLine_47 : decode cX3_changeLine 47 = .ok (.iload 5, 2) := by decide +kernel
theorem dX3_changeLine_49 : decode cX3_changeLine 49 = .ok (.ireturn, 1) := by decide +kernel
theorem dX3_isShape_0 : decode cX3_isShape 0 = .ok (.iload_n 0, 1) := by decide +kernel
theorem dX3_isShape_1 : decode cX3_isShape 1 = .ok (.iconst 0, 1) := by decide +kernel
theorem dX3_isShape_2 : decode cX3_isShape 2 = .ok (.bipush 15, 2) := by decide +kernel
theorem dX3_isShape_4 : decode cX3_isShape 4 = .ok (.invokestatic 82, 3) := by decide +kernel
theorem dX3_isShape_7 : decode cX3_isShape 7 = .ok (.ifCond .eq 28, 3) := by decide +kernel
theorem dX3_isShape_10 : decode cX3_isShape 10 = .ok (.iload_n 1, 1) := by decide +kernel
theorem dX3_isShape_11 : decode cX3_isShape 11 = .ok (.iconst 1, 1) := by decide +kernel
theorem dX3_isShape_12 : decode cX3_isShape 12 = .ok (.bipush 50, 2) := by decide +kernel
theorem dX3_isShape_14 : decode cX3_isShape 14 = .ok (.invokestatic 82, 3) := by decide +kernel
theorem dX3_isShape_17 : decode cX3_isShape 17 = .ok (.ifCond .eq 18, 3) := by decide +kernel
theorem dX3_isShape_20 : decode cX3_isShape 20 = .ok (.iload_n 2, 1) := by decide +kernel
theorem dX3_isShape_21 : decode cX3_isShape 21 = .ok (.iconst 0, 1) := by decide +kernel
theorem dX3_isShape_22 : decode cX3_isShape 22 = .ok (.sipush 500, 3) := by decide +kernel
theorem dX3_isShape_25 : decode cX3_isShape 25 = .ok (.invokestatic 82, 3) := by decide +kernel
theorem dX3_isShape_28 : decode cX3_isShape 28 = .ok (.ifCond .eq 7, 3) := by decide +kernel
theorem dX3_isShape_31 : decode cX3_isShape 31 = .ok (.iconst 1, 1) := by decide +kernel
theorem dX3_isShape_32 : decode cX3_isShape 32 = .ok (.goto 4, 3) := by decide +kernel
theorem dX3_isShape_35 : decode cX3_isShape 35 = .ok (.iconst 0, 1) := by decide +kernel
theorem dX3_isShape_36 : decode cX3_isShape 36 = .ok (.ireturn, 1) := by decide +kernel
theorem dX3_addTimer_0 : decode cX3_addTimer 0 = .ok (.aload_n 0, 1) := by decide +kernel
theorem dX3_addTimer_1 : decode cX3_addTimer 1 = .ok (.iload_n 1, 1) := by decide +kernel
theorem dX3_addTimer_2 : decode cX3_addTimer 2 = .ok (.invokevirtual 103, 3) := by decide +kernel
theorem dX3_addTimer_5 : decode cX3_addTimer 5 = .ok (.ifCond .ne 5, 3) := by decide +kernel
theorem dX3_addTimer_8 : decode cX3_addTimer 8 = .ok (.iconst (-1), 1) := by decide +kernel
theorem dX3_addTimer_9 : decode cX3_addTimer 9 = .ok (.ireturn, 1) := by decide +kernel
theorem dX3_addTimer_10 : decode cX3_addTimer 10 = .ok (.iload_n 2, 1) := by decide +kernel
theorem dX3_addTimer_11 : decode cX3_addTimer 11 = .ok (.iconst 1, 1) := by decide +kernel
theorem dX3_addTimer_12 : decode cX3_addTimer 12 = .ok (.sipush 200, 3) := by decide +kernel
theorem dX3_addTimer_15 : decode cX3_addTimer 15 = .ok (.invokestatic 82, 3) := by decide +kernel
theorem dX3_addTimer_18 : decode cX3_addTimer 18 = .ok (.ifCond .eq 22, 3) := by decide +kernel
theorem dX3_addTimer_21 : decode cX3_addTimer 21 = .ok (.iload_n 3, 1) := by decide +kernel
theorem dX3_addTimer_22 : decode cX3_addTimer 22 = .ok (.aload_n 0, 1) := by decide +kernel
theorem dX3_addTimer_23 : decode cX3_addTimer 23 = .ok (.getfield 44, 3) := by decide +kernel
theorem dX3_addTimer_26 : decode cX3_addTimer 26 = .ok (.aload_n 0, 1) := by decide +kernel
theorem dX3_addTimer_27 : decode cX3_addTimer 27 = .ok (.getfield 44, 3) := by decide +kernel
theorem dX3_addTimer_30 : decode cX3_addTimer 30 = .ok (.sipush 500, 3) := by decide +kernel
theorem dX3_addTimer_33 : decode cX3_addTimer 33 = .ok (.iadd, 1) := by decide +kernel
theorem dX3_addTimer_34 : decode cX3_addTimer 34 = .ok (.invokestatic 82, 3) := by decide +kernel
theorem dX3_addTimer_37 : decode cX3_addTimer 37 = .ok (.ifCond .ne 6, 3) := by decide +kernel
theorem dX3_addTimer_40 : decode cX3_addTimer 40 = .ok (.bipush (-2), 2) := by decide +kernel
theorem dX3_addTimer_42 : decode cX3_addTimer 42 = .ok (.ireturn, 1) := by decide +kernel
theorem dX3_addTimer_43 : decode cX3_addTimer 43 = .ok (.aload_n 0, 1) := by decide +kernel
theorem dX3_addTimer_44 : decode cX3_addTimer 44 = .ok (.getfield 61, 3) := by decide +kernel
theorem dX3_addTimer_47 : decode cX3_addTimer 47 = .ok (.bipush 6, 2) := by decide +kernel
theorem dX3_addTimer_49 : decode cX3_addTimer 49 = .ok (.if_icmp .lt 6, 3) := by decide +kernel
theorem dX3_addTimer_52 : decode cX3_addTimer 52 = .ok (.bipush (-4), 2) := by decide +kernel
theorem dX3_addTimer_54 : decode cX3_addTimer 54 = .ok (.ireturn, 1) := by decide +kernel
theorem dX3_addTimer_55 : decode cX3_addTimer 55 = .ok (.aload_n 0, 1) := by decide +kernel
theorem dX3_addTimer_56 : decode cX3_addTimer 56 = .ok (.getfield 25, 3) := by decide +kernel
theorem dX3_addTimer_59 : decode cX3_addTimer 59 = .ok (.iload_n 1, 1) := by decide +kernel
theorem dX3_addTimer_60 : decode cX3_addTimer 60 = .ok (.aaload, 1) := by decide +kernel
theorem dX3_addTimer_61 : decode cX3_addTimer 61 = .ok (.getfield 110, 3) := by decide +kernel
theorem dX3_addTimer_64 : decode cX3_addTimer 64 = .ok (.ifCond .eq 6, 3) := by decide +kernel
theorem dX3_addTimer_67 : decode cX3_addTimer 67 = .ok (.bipush (-5), 2) := by decide +kernel
theorem dX3_addTimer_69 : decode cX3_addTimer 69 = .ok (.ireturn, 1) := by decide +kernel
theorem dX3_addTimer_70 : decode cX3_addTimer 70 = .ok (.aload_n 0, 1) := by decide +kernel
theorem dX3_addTimer_71 : decode cX3_addTimer 71 = .ok (.getfield 32, 3) := by decide +kernel
theorem dX3_addTimer_74 : decode cX3_addTimer 74 = .ok (.aload_n 0, 1) := by decide +kernel
theorem dX3_addTimer_75 : decode cX3_addTimer 75 = .ok (.getfield 61, 3) := by decide +kernel
theorem dX3_addTimer_78 : decode cX3_addTimer 78 = .ok (.aaload, 1) := by decide +kernel
theorem dX3_addTimer_79 : decode cX3_addTimer 79 = .ok (.astore 4, 2) := by decide +kernel
theorem dX3_addTimer_81 : decode cX3_addTimer 81 = .ok (.aload 4, 2) := by decide +kernel
theorem dX3_addTimer_83 : decode cX3_addTimer 83 = .ok (.iload_n 1, 1) := by decide +kernel
theorem dX3_addTimer_84 : decode cX3_addTimer 84 = .ok (.putfield 114, 3) := by decide +kernel
theorem dX3_addTimer_87 : decode cX3_addTimer 87 = .ok (.aload 4, 2) := by decide +kernel
theorem dX3_addTimer_89 : decode cX3_addTimer 89 = .ok (.iload_n 2, 1) := by decide +kernel
theorem dX3_addTimer_90 : decode cX3_addTimer 90 = .ok (.putfield 117, 3) := by decide +kernel
theorem dX3_addTimer_93 : decode cX3_addTimer 93 = .ok (.aload 4, 2) := by decide +kernel
theorem dX3_addTimer_95 : decode cX3_addTimer 95 = .ok (.iload_n 3, 1) := by decide +kernel
theorem dX3_addTimer_96 : decode cX3_addTimer 96 = .ok (.putfield 120, 3) := by decide +kernel
theorem dX3_addTimer_99 : decode cX3_addTimer 99 = .ok (.aload_n 0, 1) := by decide +kernel
theorem dX3_addTimer_100 : decode cX3_addTimer 100 = .ok (.dup, 1) := by decide +kernel
theorem dX3_addTimer_101 : decode cX3_addTimer 101 = .ok (.getfield 61, 3) := by decide +kernel
theorem dX3_addTimer_104 : decode cX3_addTimer 104 = .ok (.iconst 1, 1) := by decide +kernel
theorem dX3_addTimer_105 : decode cX3_addTimer 105 = .ok (.iadd, 1) := by decide +kernel
theorem dX3_addTimer_106 : decode cX3_addTimer 106 = .ok (.putfield 61, 3) := by decide +kernel
theorem dX3_addTimer_109 : decode cX3_addTimer 109 = .ok (.aload_n 0, 1) := by decide +kernel
theorem dX3_addTimer_110 : decode cX3_addTimer 110 = .ok (.getfield 61, 3) := by decide +kernel
theorem dX3_addTimer_113 : decode cX3_addTimer 113 = .ok (.iconst 1, 1) := by decide +kernel
theorem dX3_addTimer_114 : decode cX3_addTimer 114 = .ok (.isub, 1) := by decide +kernel
theorem dX3_addTimer_115 : decode cX3_addTimer 115 = .ok (.ireturn, 1) := by decide +kernel
theorem dX3_removeTimer_0 : decode cX3_removeTimer 0 = .ok (.aload_n 0, 1) := by decide +kernel
theorem dX3_removeTimer_1 : decode cX3_removeTimer 1 = .ok (.iload_n 1, 1) := by decide +kernel
theorem dX3_removeTimer_2 : decode cX3_removeTimer 2 = .ok (.invokevirtual 123, 3) := by decide +kernel
theorem dX3_removeTimer_5 : decode cX3_removeTimer 5 = .ok (.ifCond .ne 5, 3) := by decide +kernel
theorem dX3_removeTimer_8 : decode cX3_removeTimer 8 = .ok (.iconst (-1), 1) := by decide +kernel
theorem dX3_removeTimer_9 : decode cX3_removeTimer 9 = .ok (.ireturn, 1) := by decide +kernel
theorem dX3_removeTimer_10 : decode cX3_removeTimer 10 = .ok (.iload_n 1, 1) := by decide +kernel
theorem dX3_removeTimer_11 : decode cX3_removeTimer 11 = .ok (.istore_n 2, 1) := by decide +kernel
theorem dX3_removeTimer_12 : decode cX3_removeTimer 12 = .ok (.iload_n 2, 1) := by decide +kernel
theorem dX3_removeTimer_13 : decode cX3_removeTimer 13 = .ok (.iconst 1, 1) := by decide +kernel
theorem dX3_removeTimer_14 : decode cX3_removeTimer 14 = .ok (.iadd, 1) := by decide +kernel
theorem dX3_removeTimer_15 : decode cX3_removeTimer 15 = .ok (.aload_n 0, 1) := by decide +kernel
theorem dX3_removeTimer_16 : decode cX3_removeTimer 16 = .ok (.getfield 61, 3) := by decide +kernel
theorem dX3_removeTimer_19 : decode cX3_removeTimer 19 = .ok (.if_icmp .ge 26, 3) := by decide +kernel
theorem dX3_removeTimer_22 : decode cX3_removeTimer 22 = .ok (.aload_n 0, 1) := by decide +kernel
theorem dX3_removeTimer_23 : decode cX3_removeTimer 23 = .ok (.getfield 32, 3) := by decide +kernel
theorem dX3_removeTimer_26 : decode cX3_removeTimer 26 = .ok (.iload_n 2, 1) := by decide +kernel
theorem dX3_removeTimer_27 : decode cX3_removeTimer 27 = .ok (.aaload, 1) := by decide +kernel
theorem dX3_removeTimer_28 : decode cX3_removeTimer 28 = .ok (.aload_n 0, 1) := by decide +kernel
theorem dX3_removeTimer_29 : decode cX3_removeTimer 29 = .ok (.getfield 32, 3) := by decide +kernel
theorem dX3_removeTimer_32 : decode cX3_removeTimer 32 = .ok (.iload_n 2, 1) := by decide +kernel
theorem dX3_removeTimer_33 : decode cX3_removeTimer 33 = .ok (.iconst 1, 1) := by decide +kernel
theorem dX3_removeTimer_34 : decode cX3_removeTimer 34 = .ok (.iadd, 1) := by decide +kernel
theorem dX3_removeTimer_35 : decode cX3_removeTimer 35 = .ok (.aaload, 1) := by decide +kernel
theorem dX3_removeTimer_36 : decode cX3_removeTimer 36 = .ok (.invokevirtual 64, 3) := by decide +kernel
theorem dX3_removeTimer_39 : decode cX3_removeTimer 39 = .ok (.iinc 2 1, 3) := by decide +kernel
theorem dX3_removeTimer_42 : decode cX3_removeTimer 42 = .ok (.goto (-30), 3) := by decide +kernel
theorem dX3_removeTimer_45 : decode cX3_removeTimer 45 = .ok (.aload_n 0, 1) := by decide +kernel
theorem dX3_removeTimer_46 : decode cX3_removeTimer 46 = .ok (.dup, 1) := by decide +kernel
theorem dX3_removeTimer_47 : decode cX3_removeTimer 47 = .ok (.getfield 61, 3) := by decide +kernel
theorem dX3_removeTimer_50 : decode cX3_removeTimer 50 = .ok (.iconst 1, 1) := by decide +kernel
theorem dX3_removeTimer_51 : decode cX3_removeTimer 51 = .ok (.isub, 1) := by decide +kernel
theorem dX3_removeTimer_52 : decode cX3_removeTimer 52 = .ok (.putfield 61, 3) := by decide +kernel
theorem dX3_removeTimer_55 : decode cX3_removeTimer 55 = .ok (.aload_n 0, 1) := by decide +kernel
theorem dX3_removeTimer_56 : decode cX3_removeTimer 56 = .ok (.getfield 61, 3) := by decide +kernel
theorem dX3_removeTimer_59 : decode cX3_removeTimer 59 = .ok (.ireturn, 1) := by decide +kernel
theorem dX3_raiseLine_0 : decode cX3_raiseLine 0 = .ok (.aload_n 0, 1) := by decide +kernel
theorem dX3_raiseLine_1 : decode cX3_raiseLine 1 = .ok (.iload_n 1, 1) := by decide +kernel
theorem dX3_raiseLine_2 : decode cX3_raiseLine 2 = .ok (.invokevirtual 103, 3) := by decide +kernel
theorem dX3_raiseLine_5 : decode cX3_raiseLine 5 = .ok (.ifCond .ne 5, 3) := by decide +kernel
theorem dX3_raiseLine_8 : decode cX3_raiseLine 8 = .ok (.iconst (-1), 1) := by decide +kernel
theorem dX3_raiseLine_9 : decode cX3_raiseLine 9 = .ok (.ireturn, 1) := by decide +kernel
theorem dX3_raiseLine_10 : decode cX3_raiseLine 10 = .ok (.aload_n 0, 1) := by decide +kernel
theorem dX3_raiseLine_11 : decode cX3_raiseLine 11 = .ok (.getfield 25, 3) := by decide +kernel
theorem dX3_raiseLine_14 : decode cX3_raiseLine 14 = .ok (.iload_n 1, 1) := by decide +kernel
theorem dX3_raiseLine_15 : decode cX3_raiseLine 15 = .ok (.aaload, 1) := by decide +kernel
theorem dX3_raiseLine_16 : decode cX3_raiseLine 16 = .ok (.getfield 110, 3) := by decide +kernel
theorem dX3_raiseLine_19 : decode cX3_raiseLine 19 = .ok (.ifCond .eq 6, 3) := by decide +kernel
theorem dX3_raiseLine_22 : decode cX3_raiseLine 22 = .ok (.bipush (-5), 2) := by decide +kernel
theorem dX3_raiseLine_24 : decode cX3_raiseLine 24 = .ok (.ireturn, 1) := by decide +kernel
theorem dX3_raiseLine_25 : decode cX3_raiseLine 25 = .ok (.aload_n 0, 1) := by decide +kernel
theorem dX3_raiseLine_26 : decode cX3_raiseLine 26 = .ok (.getfield 25, 3) := by decide +kernel
theorem dX3_raiseLine_29 : decode cX3_raiseLine 29 = .ok (.iload_n 1, 1) := by decide +kernel
theorem dX3_raiseLine_30 : decode cX3_raiseLine 30 = .ok (.aaload, 1) := by decide +kernel
theorem dX3_raiseLine_31 : decode cX3_raiseLine 31 = .ok (.aload_n 0, 1) := by decide +kernel
theorem dX3_raiseLine_32 : decode cX3_raiseLine 32 = .ok (.getfield 18, 3) := by decide +kernel
theorem dX3_raiseLine_35 : decode cX3_raiseLine 35 = .ok (.iconst 5, 1) := by decide +kernel
theorem dX3_raiseLine_36 : decode cX3_raiseLine 36 = .ok (.iaload, 1) := by decide +kernel
theorem dX3_raiseLine_37 : decode cX3_raiseLine 37 = .ok (.iconst 1, 1) := by decide +kernel
theorem dX3_raiseLine_38 : decode cX3_raiseLine 38 = .ok (.if_icmp .ne 7, 3) := by decide +kernel
theorem dX3_raiseLine_41 : decode cX3_raiseLine 41 = .ok (.iconst 1, 1) := by decide +kernel
theorem dX3_raiseLine_42 : decode cX3_raiseLine 42 = .ok (.goto 4, 3) := by decide +kernel
theorem dX3_raiseLine_45 : decode cX3_raiseLine 45 = .ok (.iconst 0, 1) := by decide +kernel
theorem dX3_raiseLine_46 : decode cX3_raiseLine 46 = .ok (.invokevirtual 126, 3) := by decide +kernel
theorem dX3_raiseLine_49 : decode cX3_raiseLine 49 = .ok (.ifCond .eq 7, 3) := by decide +kernel
theorem dX3_raiseLine_52 : decode cX3_raiseLine 52 = .ok (.iconst 1, 1) := by decide +kernel
theorem dX3_raiseLine_53 : decode cX3_raiseLine 53 = .ok (.goto 4, 3) := by decide +kernel
theorem dX3_raiseLine_56 : decode cX3_raiseLine 56 = .ok (.iconst 0, 1) := by decide +kernel
theorem dX3_raiseLine_57 : decode cX3_raiseLine 57 = .ok (.ireturn, 1) := by decide +kernel
theorem dX3_holdLine_0 : decode cX3_holdLine 0 = .ok (.aload_n 0, 1) := by decide +kernel
theorem dX3_holdLine_1 : decode cX3_holdLine 1 = .ok (.iload_n 1, 1) := by decide +kernel
theorem dX3_holdLine_2 : decode cX3_holdLine 2 = .ok (.invokevirtual 103, 3) := by decide +kernel
theorem dX3_holdLine_5 : decode cX3_holdLine 5 = .ok (.ifCond .ne 5, 3) := by decide +kernel
theorem dX3_holdLine_8 : decode cX3_holdLine 8 = .ok (.iconst (-1), 1) := by decide +kernel
theorem dX3_holdLine_9 : decode cX3_holdLine 9 = .ok (.ireturn, 1) := by decide +kernel
theorem dX3_holdLine_10 : decode cX3_holdLine 10 = .ok (.iload_n 2, 1) := by decide +kernel
theorem dX3_holdLine_11 : decode cX3_holdLine 11 = .ok (.iconst 0, 1) := by decide +kernel
theorem dX3_holdLine_12 : decode cX3_holdLine 12 = .ok (.iconst 3, 1) := by decide +kernel
theorem dX3_holdLine_13 : decode cX3_holdLine 13 = .ok (.invokestatic 82, 3) := by decide +kernel
theorem dX3_holdLine_16 : decode cX3_holdLine 16 = .ok (.ifCond .eq 12, 3) := by decide +kernel
theorem dX3_holdLine_19 : decode cX3_holdLine 19 = .ok (.iload_n 3, 1) := by decide +kernel
theorem dX3_holdLine_20 : decode cX3_holdLine 20 = .ok (.iconst 0, 1) := by decide +kernel
theorem dX3_holdLine_21 : decode cX3_holdLine 21 = .ok (.iconst 1, 1) := by decide +kernel
theorem dX3_holdLine_22 : decode cX3_holdLine 22 = .ok (.invokestatic 82, 3) := by decide +kernel
theorem dX3_holdLine_25 : decode cX3_holdLine 25 = .ok (.ifCond .ne 6, 3) := by decide +kernel
theorem dX3_holdLine_28 : decode cX3_holdLine 28 = .ok (.bipush (-2), 2) := by decide +kernel
theorem dX3_holdLine_30 : decode cX3_holdLine 30 = .ok (.ireturn, 1) := by decide +kernel
theorem dX3_holdLine_31 : decode cX3_holdLine 31 = .ok (.aload_n 0, 1) := by decide +kernel
theorem dX3_holdLine_32 : decode cX3_holdLine 32 = .ok (.getfield 25, 3) := by decide +kernel
theorem dX3_holdLine_35 : decode cX3_holdLine 35 = .ok (.iload_n 1, 1) := by decide +kernel
theorem dX3_holdLine_36 : decode cX3_holdLine 36 = .ok (.aaload, 1) := by decide +kernel
theorem dX3_holdLine_37 : decode cX3_holdLine 37 = .ok (.getfield 110, 3) := by decide +kernel
theorem dX3_holdLine_40 : decode cX3_holdLine 40 = .ok (.ifCond .ne 6, 3) := by decide +kernel
theorem dX3_holdLine_43 : decode cX3_holdLine 43 = .ok (.bipush (-5), 2) := by decide +kernel
theorem dX3_holdLine_45 : decode cX3_holdLine 45 = .ok (.ireturn, 1) := by decide +kernel
theorem dX3_holdLine_46 : decode cX3_holdLine 46 = .ok (.aload_n 0, 1) := by decide +kernel
theorem dX3_holdLine_47 : decode cX3_holdLine 47 = .ok (.getfield 25, 3) := by decide +kernel
theorem dX3_holdLine_50 : decode cX3_holdLine 50 = .ok (.iload_n 1, 1) := by decide +kernel
theorem dX3_holdLine_51 : decode cX3_holdLine 51 = .ok (.aaload, 1) := by decide +kernel
theorem dX3_holdLine_52 : decode cX3_holdLine 52 = .ok (.iload_n 2, 1) := by decide +kernel
theorem dX3_holdLine_53 : decode cX3_holdLine 53 = .ok (.iload_n 3, 1) := by decide +kernel
theorem dX3_holdLine_54 : decode cX3_holdLine 54 = .ok (.iconst 1, 1) := by decide +kernel
theorem dX3_holdLine_55 : decode cX3_holdLine 55 = .ok (.if_icmp .ne 7, 3) := by decide +kernel
theorem dX3_holdLine_58 : decode cX3_holdLine 58 = .ok (.iconst 1, 1) := by decide +kernel
theorem dX3_holdLine_59 : decode cX3_holdLine 59 = .ok (.goto 4, 3) := by decide +kernel
theorem dX3_holdLine_62 : decode cX3_holdLine 62 = .ok (.iconst 0, 1) := by decide +kernel
theorem dX3_holdLine_63 : decode cX3_holdLine 63 = .ok (.invokevirtual 130, 3) := by decide +kernel
theorem dX3_holdLine_66 : decode cX3_holdLine 66 = .ok (.aload_n 0, 1) := by decide +kernel
theorem dX3_holdLine_67 : decode cX3_holdLine 67 = .ok (.getfield 25, 3) := by decide +kernel
theorem dX3_holdLine_70 : decode cX3_holdLine 70 = .ok (.iload_n 1, 1) := by decide +kernel
theorem dX3_holdLine_71 : decode cX3_holdLine 71 = .ok (.aaload, 1) := by decide +kernel
theorem dX3_holdLine_72 : decode cX3_holdLine 72 = .ok (.getfield 134, 3) := by decide +kernel
theorem dX3_holdLine_75 : decode cX3_holdLine 75 = .ok (.ireturn, 1) := by decide +kernel
theorem dX3_maskLine_0 : decode cX3_maskLine 0 = .ok (.aload_n 0, 1) := by decide +kernel
theorem dX3_maskLine_1 : decode cX3_maskLine 1 = .ok (.iload_n 1, 1) := by decide +kernel
theorem dX3_maskLine_2 : decode cX3_maskLine 2 = .ok (.invokevirtual 103, 3) := by decide +kernel
theorem dX3_maskLine_5 : decode cX3_maskLine 5 = .ok (.ifCond .ne 5, 3) := by decide +kernel
theorem dX3_maskLine_8 : decode cX3_maskLine 8 = .ok (.iconst (-1), 1) := by decide +kernel
theorem dX3_maskLine_9 : decode cX3_maskLine 9 = .ok (.ireturn, 1) := by decide +kernel
theorem dX3_maskLine_10 : decode cX3_maskLine 10 = .ok (.iload_n 2, 1) := by decide +kernel
theorem dX3_maskLine_11 : decode cX3_maskLine 11 = .ok (.iconst 0, 1) := by decide +kernel
theorem dX3_maskLine_12 : decode cX3_maskLine 12 = .ok (.iconst 1, 1) := by decide +kernel
theorem dX3_maskLine_13 : decode cX3_maskLine 13 = .ok (.invokestatic 82, 3) := by decide +kernel
theorem dX3_maskLine_16 : decode cX3_maskLine 16 = .ok (.ifCond .ne 6, 3) := by decide +kernel
theorem dX3_maskLine_19 : decode cX3_maskLine 19 = .ok (.bipush (-2), 2) := by decide +kernel
theorem dX3_maskLine_21 : decode cX3_maskLine 21 = .ok (.ireturn, 1) := by decide +kernel
theorem dX3_maskLine_22 : decode cX3_maskLine 22 = .ok (.aload_n 0, 1) := by decide +kernel
theorem dX3_maskLine_23 : decode cX3_maskLine 23 = .ok (.getfield 25, 3) := by decide +kernel
theorem dX3_maskLine_26 : decode cX3_maskLine 26 = .ok (.iload_n 1, 1) := by decide +kernel
theorem dX3_maskLine_27 : decode cX3_maskLine 27 = .ok (.aaload, 1) := by decide +kernel
theorem dX3_maskLine_28 : decode cX3_maskLine 28 = .ok (.getfield 137, 3) := by decide +kernel
theorem dX3_maskLine_31 : decode cX3_maskLine 31 = .ok (.ifCond .eq 7, 3) := by decide +kernel
theorem dX3_maskLine_34 : decode cX3_maskLine 34 = .ok (.iconst 1, 1) := by decide +kernel
theorem dX3_maskLine_35 : decode cX3_maskLine 35 = .ok (.goto 4, 3) := by decide +kernel
theorem dX3_maskLine_38 : decode cX3_maskLine 38 = .ok (.iconst 0, 1) := by decide +kernel
theorem dX3_maskLine_39 : decode cX3_maskLine 39 = .ok (.istore_n 3, 1) := by decide +kernel
theorem dX3_maskLine_40 : decode cX3_maskLine 40 = .ok (.aload_n 0, 1) := by decide +kernel
theorem dX3_maskLine_41 : decode cX3_maskLine 41 = .ok (.getfield 25, 3) := by decide +kernel
theorem dX3_maskLine_44 : decode cX3_maskLine 44 = .ok (.iload_n 1, 1) := by decide +kernel
theorem dX3_maskLine_45 : decode cX3_maskLine 45 = .ok (.aaload, 1) := by decide +kernel
theorem dX3_maskLine_46 : decode cX3_maskLine 46 = .ok (.iload_n 2, 1) := by decide +kernel
theorem dX3_maskLine_47 : decode cX3_maskLine 47 = .ok (.iconst 1, 1) := by decide +kernel
theorem dX3_maskLine_48 : decode cX3_maskLine 48 = .ok (.if_icmp .ne 7, 3) := by decide +kernel
theorem dX3_maskLine_51 : decode cX3_maskLine 51 = .ok (.iconst 1, 1) := by decide +kernel
theorem dX3_maskLine_52 : decode cX3_maskLine 52 = .ok (.goto 4, 3) := by decide +kernel
theorem dX3_maskLine_55 : decode cX3_maskLine 55 = .ok (.iconst 0, 1) := by decide +kernel
theorem dX3_maskLine_56 : decode cX3_maskLine 56 = .ok (.putfield 137, 3) := by decide +kernel
theorem dX3_maskLine_59 : decode cX3_maskLine 59 = .ok (.iload_n 3, 1) := by decide +kernel
theorem dX3_maskLine_60 : decode cX3_maskLine 60 = .ok (.ireturn, 1) := by decide +kernel
theorem dX3_passTicks_0 : decode cX3_passTicks 0 = .ok (.iload_n 1, 1) := by decide +kernel
theorem dX3_passTicks_1 : decode cX3_passTicks 1 = .ok (.iconst 1, 1) := by decide +kernel
theorem dX3_passTicks_2 : decode cX3_passTicks 2 = .ok (.sipush 500, 3) := by decide +kernel
theorem dX3_passTicks_5 : decode cX3_passTicks 5 = .ok (.invokestatic 82, 3) := by decide +kernel
theorem dX3_passTicks_8 : decode cX3_passTicks 8 = .ok (.ifCond .ne 6, 3) := by decide +kernel
theorem dX3_passTicks_11 : decode cX3_passTicks 11 = .ok (.bipush (-2), 2) := by decide +kernel
theorem dX3_passTicks_13 : decode cX3_passTicks 13 = .ok (.ireturn, 1) := by decide +kernel
theorem dX3_passTicks_14 : decode cX3_passTicks 14 = .ok (.iconst 0, 1) := by decide +kernel
theorem dX3_passTicks_15 : decode cX3_passTicks 15 = .ok (.istore_n 2, 1) := by decide +kernel
theorem dX3_passTicks_16 : decode cX3_passTicks 16 = .ok (.iload_n 2, 1) := by decide +kernel
theorem dX3_passTicks_17 : decode cX3_passTicks 17 = .ok (.iload_n 1, 1) := by decide +kernel
theorem dX3_passTicks_18 : decode cX3_passTicks 18 = .ok (.if_icmp .ge 14, 3) := by decide +kernel
theorem dX3_passTicks_21 : decode cX3_passTicks 21 = .ok (.aload_n 0, 1) := by decide +kernel
theorem dX3_passTicks_22 : decode cX3_passTicks 22 = .ok (.invokevirtual 140, 3) := by decide +kernel
theorem dX3_passTicks_25 : decode cX3_passTicks 25 = .ok (.pop, 1) := by decide +kernel
theorem dX3_passTicks_26 : decode cX3_passTicks 26 = .ok (.iinc 2 1, 3) := by decide +kernel
theorem dX3_passTicks_29 : decode cX3_passTicks 29 = .ok (.goto (-13), 3) := by decide +kernel
theorem dX3_passTicks_32 : decode cX3_passTicks 32 = .ok (.aload_n 0, 1) := by decide +kernel
theorem dX3_passTicks_33 : decode cX3_passTicks 33 = .ok (.getfield 44, 3) := by decide +kernel
theorem dX3_passTicks_36 : decode cX3_passTicks 36 = .ok (.ireturn, 1) := by decide +kernel
theorem dX3_passTick_0 : decode cX3_passTick 0 = .ok (.aload_n 0, 1) := by decide +kernel
theorem dX3_passTick_1 : decode cX3_passTick 1 = .ok (.invokevirtual 144, 3) := by decide +kernel
theorem dX3_passTick_4 : decode cX3_passTick 4 = .ok (.aload_n 0, 1) := by decide +kernel
theorem dX3_passTick_5 : decode cX3_passTick 5 = .ok (.invokevirtual 147, 3) := by decide +kernel
theorem dX3_passTick_8 : decode cX3_passTick 8 = .ok (.istore_n 1, 1) := by decide +kernel
theorem dX3_passTick_9 : decode cX3_passTick 9 = .ok (.aload_n 0, 1) := by decide +kernel
theorem dX3_passTick_10 : decode cX3_passTick 10 = .ok (.invokevirtual 150, 3) := by decide +kernel
theorem dX3_passTick_13 : decode cX3_passTick 13 = .ok (.aload_n 0, 1) := by decide +kernel
theorem dX3_passTick_14 : decode cX3_passTick 14 = .ok (.invokevirtual 153, 3) := by decide +kernel
theorem dX3_passTick_17 : decode cX3_passTick 17 = .ok (.aload_n 0, 1) := by decide +kernel
theorem dX3_passTick_18 : decode cX3_passTick 18 = .ok (.dup, 1) := by decide +kernel
theorem dX3_passTick_19 : decode cX3_passTick 19 = .ok (.getfield 44, 3) := by decide +kernel
theorem dX3_passTick_22 : decode cX3_passTick 22 = .ok (.iconst 1, 1) := by decide +kernel
theorem dX3_passTick_23 : decode cX3_passTick 23 = .ok (.iadd, 1) := by decide +kernel
theorem dX3_passTick_24 : decode cX3_passTick 24 = .ok (.putfield 44, 3) := by decide +kernel
theorem dX3_passTick_27 : decode cX3_passTick 27 = .ok (.iload_n 1, 1) := by decide +kernel
theorem dX3_passTick_28 : decode cX3_passTick 28 = .ok (.ireturn, 1) := by decide +kernel
theorem dX3_raiseByTimers_0 : decode cX3_raiseByTimers 0 = .ok (.iconst 0, 1) := by decide +kernel
theorem dX3_raiseByTimers_1 : decode cX3_raiseByTimers 1 = .ok (.istore_n 1, 1) := by decide +kernel
theorem dX3_raiseByTimers_2 : decode cX3_raiseByTimers 2 = .ok (.iload_n 1, 1) := by decide +kernel
theorem dX3_raiseByTimers_3 : decode cX3_raiseByTimers 3 = .ok (.aload_n 0, 1) := by decide +kernel
theorem dX3_raiseByTimers_4 : decode cX3_raiseByTimers 4 = .ok (.getfield 61, 3) := by decide +kernel
theorem dX3_raiseByTimers_7 : decode cX3_raiseByTimers 7 = .ok (.if_icmp .ge 68, 3) := by decide +kernel
theorem dX3_raiseByTimers_10 : decode cX3_raiseByTimers 10 = .ok (.aload_n 0, 1) := by decide +kernel
theorem dX3_raiseByTimers_11 : decode cX3_raiseByTimers 11 = .ok (.getfield 32, 3) := by decide +kernel
theorem dX3_raiseByTimers_14 : decode cX3_raiseByTimers 14 = .ok (.iload_n 1, 1) := by decide +kernel
theorem dX3_raiseByTimers_15 : decode cX3_raiseByTimers 15 = .ok (.aaload, 1) := by decide +kernel
theorem dX3_raiseByTimers_16 : decode cX3_raiseByTimers 16 = .ok (.astore_n 2, 1) := by decide +kernel
theorem dX3_raiseByTimers_17 : decode cX3_raiseByTimers 17 = .ok (.aload_n 2, 1) := by decide +kernel
theorem dX3_raiseByTimers_18 : decode cX3_raiseByTimers 18 = .ok (.getfield 120, 3) := by decide +kernel
theorem dX3_raiseByTimers_21 : decode cX3_raiseByTimers 21 = .ok (.aload_n 0, 1) := by decide +kernel
theorem dX3_raiseByTimers_22 : decode cX3_raiseByTimers 22 = .ok (.getfield 44, 3) := by decide +kernel
theorem dX3_raiseByTimers_25 : decode cX3_raiseByTimers 25 = .ok (.if_icmp .gt 44, 3) := by decide +kernel
theorem dX3_raiseByTimers_28 : decode cX3_raiseByTimers 28 = .ok (.aload_n 0, 1) := by decide +kernel
theorem dX3_raiseByTimers_29 : decode cX3_raiseByTimers 29 = .ok (.getfield 25, 3) := by decide +kernel
theorem dX3_raiseByTimers_32 : decode cX3_raiseByTimers 32 = .ok (.aload_n 2, 1) := by decide +kernel
theorem dX3_raiseByTimers_33 : decode cX3_raiseByTimers 33 = .ok (.getfield 114, 3) := by decide +kernel
theorem dX3_raiseByTimers_36 : decode cX3_raiseByTimers 36 = .ok (.aaload, 1) := by decide +kernel
theorem dX3_raiseByTimers_37 : decode cX3_raiseByTimers 37 = .ok (.aload_n 0, 1) := by decide +kernel
theorem dX3_raiseByTimers_38 : decode cX3_raiseByTimers 38 = .ok (.getfield 18, 3) := by decide +kernel
theorem dX3_raiseByTimers_41 : decode cX3_raiseByTimers 41 = .ok (.iconst 5, 1) := by decide +kernel
theorem dX3_raiseByTimers_42 : decode cX3_raiseByTimers 42 = .ok (.iaload, 1) := by decide +kernel
theorem dX3_raiseByTimers_43 : decode cX3_raiseByTimers 43 = .ok (.iconst 1, 1) := by decide +kernel
theorem dX3_raiseByTimers_44 : decode cX3_raiseByTimers 44 = .ok (.if_icmp .ne 7, 3) := by decide +kernel
theorem dX3_raiseByTimers_47 : decode cX3_raiseByTimers 47 = .ok (.iconst 1, 1) := by decide +kernel
theorem dX3_raiseByTimers_48 : decode cX3_raiseByTimers 48 = .ok (.goto 4, 3) := by decide +kernel
theorem dX3_raiseByTimers_51 : decode cX3_raiseByTimers 51 = .ok (.iconst 0, 1) := by decide +kernel
theorem dX3_raiseByTimers_52 : decode cX3_raiseByTimers 52 = .ok (.invokevirtual 126, 3) := by decide +kernel
theorem dX3_raiseByTimers_55 : decode cX3_raiseByTimers 55 = .ok (.pop, 1) := by decide +kernel
theorem dX3_raiseByTimers_56 : decode cX3_raiseByTimers 56 = .ok (.aload_n 2, 1) := by decide +kernel
theorem dX3_raiseByTimers_57 : decode cX3_raiseByTimers 57 = .ok (.dup, 1) := by decide +kernel
theorem dX3_raiseByTimers_58 : decode cX3_raiseByTimers 58 = .ok (.getfield 120, 3) := by decide +kernel
theorem dX3_raiseByTimers_61 : decode cX3_raiseByTimers 61 = .ok (.aload_n 2, 1) := by decide +kernel
theorem dX3_raiseByTimers_62 : decode cX3_raiseByTimers 62 = .ok (.getfield 117, 3) := by decide +kernel
theorem dX3_raiseByTimers_65 : decode cX3_raiseByTimers 65 = .ok (.iadd, 1) := by decide +kernel
theorem dX3_raiseByTimers_66 : decode cX3_raiseByTimers 66 = .ok (.putfield 120, 3) := by decide +kernel
theorem dX3_raiseByTimers_69 : decode cX3_raiseByTimers 69 = .ok (.iinc 1 1, 3) := by decide +kernel
theorem dX3_raiseByTimers_72 : decode cX3_raiseByTimers 72 = .ok (.goto (-70), 3) := by decide +kernel
theorem dX3_raiseByTimers_75 : decode cX3_raiseByTimers 75 = .ok (.return_, 1) := by decide +kernel
theorem dX3_foundLine_0 : decode cX3_foundLine 0 = .ok (.bipush (-6), 2) := by decide +kernel
theorem dX3_foundLine_2 : decode cX3_foundLine 2 = .ok (.istore_n 1, 1) := by decide +kernel
theorem dX3_foundLine_3 : decode cX3_foundLine 3 = .ok (.iconst 0, 1) := by decide +kernel
theorem dX3_foundLine_4 : decode cX3_foundLine 4 = .ok (.istore_n 2, 1) := by decide +kernel
theorem dX3_foundLine_5 : decode cX3_foundLine 5 = .ok (.iconst 0, 1) := by decide +kernel
theorem dX3_foundLine_6 : decode cX3_foundLine 6 = .ok (.istore_n 3, 1) := by decide +kernel
theorem dX3_foundLine_7 : decode cX3_foundLine 7 = .ok (.iload_n 3, 1) := by decide +kernel
theorem dX3_foundLine_8 : decode cX3_foundLine 8 = .ok (.aload_n 0, 1) := by decide +kernel
theorem dX3_foundLine_9 : decode cX3_foundLine 9 = .ok (.getfield 54, 3) := by decide +kernel
theorem dX3_foundLine_12 : decode cX3_foundLine 12 = .ok (.if_icmp .ge 118, 3) := by decide +kernel
theorem dX3_foundLine_15 : decode cX3_foundLine 15 = .ok (.aload_n 0, 1) := by decide +kernel
theorem dX3_foundLine_16 : decode cX3_foundLine 16 = .ok (.getfield 25, 3) := by decide +kernel
theorem dX3_foundLine_19 : decode cX3_foundLine 19 = .ok (.iload_n 3, 1) := by decide +kernel
theorem dX3_foundLine_20 : decode cX3_foundLine 20 = .ok (.aaload, 1) := by decide +kernel
theorem dX3_foundLine_21 : decode cX3_foundLine 21 = .ok (.invokevirtual 156, 3) := by decide +kernel
theorem dX3_foundLine_24 : decode cX3_foundLine 24 = .ok (.ifCond .ne 6, 3) := by decide +kernel
theorem dX3_foundLine_27 : decode cX3_foundLine 27 = .ok (.goto 97, 3) := by decide +kernel
theorem dX3_foundLine_30 : decode cX3_foundLine 30 = .ok (.aload_n 0, 1) := by decide +kernel
theorem dX3_foundLine_31 : decode cX3_foundLine 31 = .ok (.getfield 25, 3) := by decide +kernel
theorem dX3_foundLine_34 : decode cX3_foundLine 34 = .ok (.iload_n 3, 1) := by decide +kernel
theorem dX3_foundLine_35 : decode cX3_foundLine 35 = .ok (.aaload, 1) := by decide +kernel
theorem dX3_foundLine_36 : decode cX3_foundLine 36 = .ok (.aload_n 0, 1) := by decide +kernel
theorem dX3_foundLine_37 : decode cX3_foundLine 37 = .ok (.getfield 18, 3) := by decide +kernel
theorem dX3_foundLine_40 : decode cX3_foundLine 40 = .ok (.iconst 0, 1) := by decide +kernel
theorem dX3_foundLine_41 : decode cX3_foundLine 41 = .ok (.iaload, 1) := by decide +kernel
theorem dX3_foundLine_42 : decode cX3_foundLine 42 = .ok (.aload_n 0, 1) := by decide +kernel
theorem dX3_foundLine_43 : decode cX3_foundLine 43 = .ok (.getfield 18, 3) := by decide +kernel
theorem dX3_foundLine_46 : decode cX3_foundLine 46 = .ok (.iconst 1, 1) := by decide +kernel
theorem dX3_foundLine_47 : decode cX3_foundLine 47 = .ok (.iaload, 1) := by decide +kernel
theorem dX3_foundLine_48 : decode cX3_foundLine 48 = .ok (.invokevirtual 160, 3) := by decide +kernel
theorem dX3_foundLine_51 : decode cX3_foundLine 51 = .ok (.istore 4, 2) := by decide +kernel
theorem dX3_foundLine_53 : decode cX3_foundLine 53 = .ok (.iload 4, 2) := by decide +kernel
theorem dX3_foundLine_55 : decode cX3_foundLine 55 = .ok (.aload_n 0, 1) := by decide +kernel
theorem dX3_foundLine_56 : decode cX3_foundLine 56 = .ok (.getfield 18, 3) := by decide +kernel
theorem dX3_foundLine_59 : decode cX3_foundLine 59 = .ok (.bipush 6, 2) := by decide +kernel
theorem dX3_foundLine_61 : decode cX3_foundLine 61 = .ok (.iaload, 1) := by decide +kernel
theorem dX3_foundLine_62 : decode cX3_foundLine 62 = .ok (.if_icmp .ge 6, 3) := by decide +kernel
theorem dX3_foundLine_65 : decode cX3_foundLine 65 = .ok (.goto 59, 3) := by decide +kernel
theorem dX3_foundLine_68 : decode cX3_foundLine 68 = .ok (.iload_n 1, 1) := by decide +kernel
theorem dX3_foundLine_69 : decode cX3_foundLine 69 = .ok (.bipush (-6), 2) := by decide +kernel
theorem dX3_foundLine_71 : decode cX3_foundLine 71 = .ok (.if_icmp .eq 36, 3) := by decide +kernel
theorem dX3_foundLine_74 : decode cX3_foundLine 74 = .ok (.iload 4, 2) := by decide +kernel
theorem dX3_foundLine_76 : decode cX3_foundLine 76 = .ok (.iload_n 2, 1) := by decide +kernel
theorem dX3_foundLine_77 : decode cX3_foundLine 77 = .ok (.if_icmp .gt 30, 3) := by decide +kernel
theorem dX3_foundLine_80 : decode cX3_foundLine 80 = .ok (.iload 4, 2) := by decide +kernel
theorem dX3_foundLine_82 : decode cX3_foundLine 82 = .ok (.iload_n 2, 1) := by decide +kernel
theorem dX3_foundLine_83 : decode cX3_foundLine 83 = .ok (.if_icmp .ne 28, 3) := by decide +kernel
theorem dX3_foundLine_86 : decode cX3_foundLine 86 = .ok (.aload_n 0, 1) := by decide +kernel
theorem dX3_foundLine_87 : decode cX3_foundLine 87 = .ok (.getfield 25, 3) := by decide +kernel
theorem dX3_foundLine_90 : decode cX3_foundLine 90 = .ok (.iload_n 3, 1) := by decide +kernel
theorem dX3_foundLine_91 : decode cX3_foundLine 91 = .ok (.aaload, 1) := by decide +kernel
theorem dX3_foundLine_92 : decode cX3_foundLine 92 = .ok (.getfield 164, 3) := by decide +kernel
theorem dX3_foundLine_95 : decode cX3_foundLine 95 = .ok (.aload_n 0, 1) := by decide +kernel
theorem dX3_foundLine_96 : decode cX3_foundLine 96 = .ok (.getfield 25, 3) := by decide +kernel
theorem dX3_foundLine_99 : decode cX3_foundLine 99 = .ok (.iload_n 1, 1) := by decide +kernel
theorem dX3_foundLine_100 : decode cX3_foundLine 100 = .ok (.aaload, 1) := by decide +kernel
theorem dX3_foundLine_101 : decode cX3_foundLine 101 = .ok (.getfield 164, 3) := by decide +kernel
theorem dX3_foundLine_104 : decode cX3_foundLine 104 = .ok (.if_icmp .le 7, 3) := by decide +kernel
theorem dX3_foundLine_107 : decode cX3_foundLine 107 = .ok (.iconst 1, 1) := by decide +kernel
theorem dX3_foundLine_108 : decode cX3_foundLine 108 = .ok (.goto 4, 3) := by decide +kernel
theorem dX3_foundLine_111 : decode cX3_foundLine 111 = .ok (.iconst 0, 1) := by decide +kernel
theorem dX3_foundLine_112 : decode cX3_foundLine 112 = .ok (.istore 5, 2) := by decide +kernel
theorem dX3_foundLine_114 : decode cX3_foundLine 114 = .ok (.iload 5, 2) := by decide +kernel
theorem dX3_foundLine_116 : decode cX3_foundLine 116 = .ok (.ifCond .eq 8, 3) := by decide +kernel
theorem dX3_foundLine_119 : decode cX3_foundLine 119 = .ok (.iload_n 3, 1) := by decide +kernel
theorem dX3_foundLine_120 : decode cX3_foundLine 120 = .ok (.istore_n 1, 1) := by decide +kernel
theorem dX3_foundLine_121 : decode cX3_foundLine 121 = .ok (.iload 4, 2) := by decide +kernel
theorem dX3_foundLine_123 : decode cX3_foundLine 123 = .ok (.istore_n 2, 1) := by decide +kernel
theorem dX3_foundLine_124 : decode cX3_foundLine 124 = .ok (.iinc 3 1, 3) := by decide +kernel
theorem dX3_foundLine_127 : decode cX3_foundLine 127 = .ok (.goto (-120), 3) := by decide +kernel
theorem dX3_foundLine_130 : decode cX3_foundLine 130 = .ok (.iload_n 1, 1) := by decide +kernel
theorem dX3_foundLine_131 : decode cX3_foundLine 131 = .ok (.ireturn, 1) := by decide +kernel
theorem dX3_beginFoundLine_0 : decode cX3_beginFoundLine 0 = .ok (.aload_n 0, 1) := by decide +kernel
theorem dX3_beginFoundLine_1 : decode cX3_beginFoundLine 1 = .ok (.invokevirtual 167, 3) := by decide +kernel
theorem dX3_beginFoundLine_4 : decode cX3_beginFoundLine 4 = .ok (.istore_n 1, 1) := by decide +kernel
theorem dX3_beginFoundLine_5 : decode cX3_beginFoundLine 5 = .ok (.iload_n 1, 1) := by decide +kernel
theorem dX3_beginFoundLine_6 : decode cX3_beginFoundLine 6 = .ok (.bipush (-6), 2) := by decide +kernel
theorem dX3_beginFoundLine_8 : decode cX3_beginFoundLine 8 = .ok (.if_icmp .ne 6, 3) := by decide +kernel
theorem dX3_beginFoundLine_11 : decode cX3_beginFoundLine 11 = .ok (.bipush (-6), 2) := by decide +kernel
theorem dX3_beginFoundLine_13 : decode cX3_beginFoundLine 13 = .ok (.ireturn, 1) := by decide +kernel
theorem dX3_beginFoundLine_14 : decode cX3_beginFoundLine 14 = .ok (.aload_n 0, 1) := by decide +kernel
theorem dX3_beginFoundLine_15 : decode cX3_beginFoundLine 15 = .ok (.getfield 25, 3) := by decide +kernel
theorem dX3_beginFoundLine_18 : decode cX3_beginFoundLine 18 = .ok (.iload_n 1, 1) := by decide +kernel
theorem dX3_beginFoundLine_19 : decode cX3_beginFoundLine 19 = .ok (.aaload, 1) := by decide +kernel
theorem dX3_beginFoundLine_20 : decode cX3_beginFoundLine 20 = .ok (.astore_n 2, 1) := by decide +kernel
theorem dX3_beginFoundLine_21 : decode cX3_beginFoundLine 21 = .ok (.aload_n 2, 1) := by decide +kernel
theorem dX3_beginFoundLine_22 : decode cX3_beginFoundLine 22 = .ok (.aload_n 0, 1) := by decide +kernel
theorem dX3_beginFoundLine_23 : decode cX3_beginFoundLine 23 = .ok (.getfield 18, 3) := by decide +kernel
theorem dX3_beginFoundLine_26 : decode cX3_beginFoundLine 26 = .ok (.iconst 0, 1) := by decide +kernel
theorem dX3_beginFoundLine_27 : decode cX3_beginFoundLine 27 = .ok (.iaload, 1) := by decide +kernel
theorem dX3_beginFoundLine_28 : decode cX3_beginFoundLine 28 = .ok (.aload_n 0, 1) := by decide +kernel
theorem dX3_beginFoundLine_29 : decode cX3_beginFoundLine 29 = .ok (.getfield 18, 3) := by decide +kernel
theorem dX3_beginFoundLine_32 : decode cX3_beginFoundLine 32 = .ok (.iconst 1, 1) := by decide +kernel
theorem dX3_beginFoundLine_33 : decode cX3_beginFoundLine 33 = .ok (.iaload, 1) := by decide +kernel
theorem dX3_beginFoundLine_34 : decode cX3_beginFoundLine 34 = .ok (.invokevirtual 160, 3) := by decide +kernel
theorem dX3_beginFoundLine_37 : decode cX3_beginFoundLine 37 = .ok (.istore_n 3, 1) := by decide +kernel
theorem dX3_beginFoundLine_38 : decode cX3_beginFoundLine 38 = .ok (.aload_n 0, 1) := by decide +kernel
theorem dX3_beginFoundLine_39 : decode cX3_beginFoundLine 39 = .ok (.iload_n 3, 1) := by decide +kernel
theorem dX3_beginFoundLine_40 : decode cX3_beginFoundLine 40 = .ok (.invokevirtual 170, 3) := by decide +kernel
theorem dX3_beginFoundLine_43 : decode cX3_beginFoundLine 43 = .ok (.ifCond .ne 6, 3) := by decide +kernel
theorem dX3_beginFoundLine_46 : decode cX3_beginFoundLine 46 = .ok (.bipush (-6), 2) := by decide +kernel
theorem dX3_beginFoundLine_48 : decode cX3_beginFoundLine 48 = .ok (.ireturn, 1) := by decide +kernel
theorem dX3_beginFoundLine_49 : decode cX3_beginFoundLine 49 = .ok (.aload_n 0, 1) := by decide +kernel
theorem dX3_beginFoundLine_50 : decode cX3_beginFoundLine 50 = .ok (.getfield 67, 3) := by decide +kernel
theorem dX3_beginFoundLine_53 : decode cX3_beginFoundLine 53 = .ok (.ifCond .le 13, 3) := by decide +kernel
theorem dX3_beginFoundLine_56 : decode cX3_beginFoundLine 56 = .ok (.aload_n 0, 1) := by decide +kernel
theorem dX3_beginFoundLine_57 : decode cX3_beginFoundLine 57 = .ok (.dup, 1) := by decide +kernel
theorem dX3_beginFoundLine_58 : decode cX3_beginFoundLine 58 = .ok (.getfield 79, 3) := by decide +kernel
theorem dX3_beginFoundLine_61 : decode cX3_beginFoundLine 61 = .ok (.iconst 1, 1) := by decide +kernel
theorem dX3_beginFoundLine_62 : decode cX3_beginFoundLine 62 = .ok (.iadd, 1) := by decide +kernel
theorem dX3_beginFoundLine_63 : decode cX3_beginFoundLine 63 = .ok (.putfield 79, 3) := by decide +kernel
theorem dX3_beginFoundLine_66 : decode cX3_beginFoundLine 66 = .ok (.aload_n 0, 1) := by decide +kernel
theorem dX3_beginFoundLine_67 : decode cX3_beginFoundLine 67 = .ok (.getfield 39, 3) := by decide +kernel
theorem dX3_beginFoundLine_70 : decode cX3_beginFoundLine 70 = .ok (.aload_n 0, 1) := by decide +kernel
theorem dX3_beginFoundLine_71 : decode cX3_beginFoundLine 71 = .ok (.getfield 67, 3) := by decide +kernel
theorem dX3_beginFoundLine_74 : decode cX3_beginFoundLine 74 = .ok (.aaload, 1) := by decide +kernel
theorem dX3_beginFoundLine_75 : decode cX3_beginFoundLine 75 = .ok (.astore 4, 2) := by decide +kernel
theorem dX3_beginFoundLine_77 : decode cX3_beginFoundLine 77 = .ok (.aload 4, 2) := by decide +kernel
theorem dX3_beginFoundLine_79 : decode cX3_beginFoundLine 79 = .ok (.iload_n 1, 1) := by decide +kernel
theorem dX3_beginFoundLine_80 : decode cX3_beginFoundLine 80 = .ok (.putfield 173, 3) := by decide +kernel
theorem dX3_beginFoundLine_83 : decode cX3_beginFoundLine 83 = .ok (.aload 4, 2) := by decide +kernel
theorem dX3_beginFoundLine_85 : decode cX3_beginFoundLine 85 = .ok (.iload_n 3, 1) := by decide +kernel
theorem dX3_beginFoundLine_86 : decode cX3_beginFoundLine 86 = .ok (.putfield 174, 3) := by decide +kernel
theorem dX3_beginFoundLine_89 : decode cX3_beginFoundLine 89 = .ok (.aload 4, 2) := by decide +kernel
theorem dX3_beginFoundLine_91 : decode cX3_beginFoundLine 91 = .ok (.aload_n 0, 1) := by decide +kernel
theorem dX3_beginFoundLine_92 : decode cX3_beginFoundLine 92 = .ok (.iload_n 1, 1) := by decide +kernel
theorem dX3_beginFoundLine_93 : decode cX3_beginFoundLine 93 = .ok (.invokevirtual 175, 3) := by decide +kernel
theorem dX3_beginFoundLine_96 : decode cX3_beginFoundLine 96 = .ok (.putfield 179, 3) := by decide +kernel
theorem dX3_beginFoundLine_99 : decode cX3_beginFoundLine 99 = .ok (.aload 4, 2) := by decide +kernel
theorem dX3_beginFoundLine_101 : decode cX3_beginFoundLine 101 = .ok (.aload_n 0, 1) := by decide +kernel
theorem dX3_beginFoundLine_102 : decode cX3_beginFoundLine 102 = .ok (.getfield 44, 3) := by decide +kernel
theorem dX3_beginFoundLine_105 : decode cX3_beginFoundLine 105 = .ok (.putfield 182, 3) := by decide +kernel
theorem dX3_beginFoundLine_108 : decode cX3_beginFoundLine 108 = .ok (.aload_n 2, 1) := by decide +kernel
theorem dX3_beginFoundLine_109 : decode cX3_beginFoundLine 109 = .ok (.aload_n 0, 1) := by decide +kernel
theorem dX3_beginFoundLine_110 : decode cX3_beginFoundLine 110 = .ok (.getfield 67, 3) := by decide +kernel
theorem dX3_beginFoundLine_113 : decode cX3_beginFoundLine 113 = .ok (.invokevirtual 185, 3) := by decide +kernel
theorem dX3_beginFoundLine_116 : decode cX3_beginFoundLine 116 = .ok (.aload_n 0, 1) := by decide +kernel
theorem dX3_beginFoundLine_117 : decode cX3_beginFoundLine 117 = .ok (.dup, 1) := by decide +kernel
theorem dX3_beginFoundLine_118 : decode cX3_beginFoundLine 118 = .ok (.getfield 67, 3) := by decide +kernel
theorem dX3_beginFoundLine_121 : decode cX3_beginFoundLine 121 = .ok (.iconst 1, 1) := by decide +kernel
theorem dX3_beginFoundLine_122 : decode cX3_beginFoundLine 122 = .ok (.iadd, 1) := by decide +kernel
theorem dX3_beginFoundLine_123 : decode cX3_beginFoundLine 123 = .ok (.putfield 67, 3) := by decide +kernel
theorem dX3_beginFoundLine_126 : decode cX3_beginFoundLine 126 = .ok (.aload_n 0, 1) := by decide +kernel
theorem dX3_beginFoundLine_127 : decode cX3_beginFoundLine 127 = .ok (.getfield 67, 3) := by decide +kernel
theorem dX3_beginFoundLine_130 : decode cX3_beginFoundLine 130 = .ok (.aload_n 0, 1) := by decide +kernel
theorem dX3_beginFoundLine_131 : decode cX3_beginFoundLine 131 = .ok (.getfield 76, 3) := by decide +kernel
theorem dX3_beginFoundLine_134 : decode cX3_beginFoundLine 134 = .ok (.if_icmp .le 11, 3) := by decide +kernel
theorem dX3_beginFoundLine_137 : decode cX3_beginFoundLine 137 = .ok (.aload_n 0, 1) := by decide +kernel
theorem dX3_beginFoundLine_138 : decode cX3_beginFoundLine 138 = .ok (.aload_n 0, 1) := by decide +kernel
theorem dX3_beginFoundLine_139 : decode cX3_beginFoundLine 139 = .ok (.getfield 67, 3) := by decide +kernel
theorem dX3_beginFoundLine_142 : decode cX3_beginFoundLine 142 = .ok (.putfield 76, 3) := by decide +kernel
theorem dX3_beginFoundLine_145 : decode cX3_beginFoundLine 145 = .ok (.iload_n 1, 1) := by decide +kernel
theorem dX3_beginFoundLine_146 : decode cX3_beginFoundLine 146 = .ok (.ireturn, 1) := by decide +kernel
theorem dX3_nestTakes_0 : decode cX3_nestTakes 0 = .ok (.aload_n 0, 1) := by decide +kernel
theorem dX3_nestTakes_1 : decode cX3_nestTakes 1 = .ok (.getfield 67, 3) := by decide +kernel
theorem dX3_nestTakes_4 : decode cX3_nestTakes 4 = .ok (.ifCond .ne 5, 3) := by decide +kernel
theorem dX3_nestTakes_7 : decode cX3_nestTakes 7 = .ok (.iconst 1, 1) := by decide +kernel
theorem dX3_nestTakes_8 : decode cX3_nestTakes 8 = .ok (.ireturn, 1) := by decide +kernel
theorem dX3_nestTakes_9 : decode cX3_nestTakes 9 = .ok (.aload_n 0, 1) := by decide +kernel
theorem dX3_nestTakes_10 : decode cX3_nestTakes 10 = .ok (.getfield 67, 3) := by decide +kernel
theorem dX3_nestTakes_13 : decode cX3_nestTakes 13 = .ok (.aload_n 0, 1) := by decide +kernel
theorem dX3_nestTakes_14 : decode cX3_nestTakes 14 = .ok (.getfield 18, 3) := by decide +kernel
theorem dX3_nestTakes_17 : decode cX3_nestTakes 17 = .ok (.iconst 3, 1) := by decide +kernel
theorem dX3_nestTakes_18 : decode cX3_nestTakes 18 = .ok (.iaload, 1) := by decide +kernel
theorem dX3_nestTakes_19 : decode cX3_nestTakes 19 = .ok (.if_icmp .ge 16, 3) := by decide +kernel
theorem dX3_nestTakes_22 : decode cX3_nestTakes 22 = .ok (.aload_n 0, 1) := by decide +kernel
theorem dX3_nestTakes_23 : decode cX3_nestTakes 23 = .ok (.getfield 67, 3) := by decide +kernel
theorem dX3_nestTakes_26 : decode cX3_nestTakes 26 = .ok (.bipush 8, 2) := by decide +kernel
theorem dX3_nestTakes_28 : decode cX3_nestTakes 28 = .ok (.if_icmp .ge 7, 3) := by decide +kernel
theorem dX3_nestTakes_31 : decode cX3_nestTakes 31 = .ok (.iconst 1, 1) := by decide +kernel
theorem dX3_nestTakes_32 : decode cX3_nestTakes 32 = .ok (.goto 4, 3) := by decide +kernel
theorem dX3_nestTakes_35 : decode cX3_nestTakes 35 = .ok (.iconst 0, 1) := by decide +kernel
theorem dX3_nestTakes_36 : decode cX3_nestTakes 36 = .ok (.istore_n 2, 1) := by decide +kernel
theorem dX3_nestTakes_37 : decode cX3_nestTakes 37 = .ok (.iload_n 2, 1) := by decide +kernel
theorem dX3_nestTakes_38 : decode cX3_nestTakes 38 = .ok (.ifCond .eq 32, 3) := by decide +kernel
theorem dX3_nestTakes_41 : decode cX3_nestTakes 41 = .ok (.iload_n 1, 1) := by decide +kernel
theorem dX3_nestTakes_42 : decode cX3_nestTakes 42 = .ok (.aload_n 0, 1) := by decide +kernel
theorem dX3_nestTakes_43 : decode cX3_nestTakes 43 = .ok (.getfield 39, 3) := by decide +kernel
theorem dX3_nestTakes_46 : decode cX3_nestTakes 46 = .ok (.aload_n 0, 1) := by decide +kernel
theorem dX3_nestTakes_47 : decode cX3_nestTakes 47 = .ok (.getfield 67, 3) := by decide +kernel
theorem dX3_nestTakes_50 : decode cX3_nestTakes 50 = .ok (.iconst 1, 1) := by decide +kernel
theorem dX3_nestTakes_51 : decode cX3_nestTakes 51 = .ok (.isub, 1) := by decide +kernel
theorem dX3_nestTakes_52 : decode cX3_nestTakes 52 = .ok (.aaload, 1) := by decide +kernel
theorem dX3_nestTakes_53 : decode cX3_nestTakes 53 = .ok (.getfield 174, 3) := by decide +kernel
theorem dX3_nestTakes_56 : decode cX3_nestTakes 56 = .ok (.aload_n 0, 1) := by decide +kernel
theorem dX3_nestTakes_57 : decode cX3_nestTakes 57 = .ok (.getfield 18, 3) := by decide +kernel
theorem dX3_nestTakes_60 : decode cX3_nestTakes 60 = .ok (.iconst 2, 1) := by decide +kernel
theorem dX3_nestTakes_61 : decode cX3_nestTakes 61 = .ok (.iaload, 1) := by decide +kernel
theorem dX3_nestTakes_62 : decode cX3_nestTakes 62 = .ok (.iadd, 1) := by decide +kernel
theorem dX3_nestTakes_63 : decode cX3_nestTakes 63 = .ok (.if_icmp .lt 7, 3) := by decide +kernel
theorem dX3_nestTakes_66 : decode cX3_nestTakes 66 = .ok (.iconst 1, 1) := by decide +kernel
theorem dX3_nestTakes_67 : decode cX3_nestTakes 67 = .ok (.goto 4, 3) := by decide +kernel
theorem dX3_nestTakes_70 : decode cX3_nestTakes 70 = .ok (.iconst 0, 1) := by decide +kernel
theorem dX3_nestTakes_71 : decode cX3_nestTakes 71 = .ok (.ireturn, 1) := by decide +kernel
theorem dX3_serveTop_0 : decode cX3_serveTop 0 = .ok (.aload_n 0, 1) := by decide +kernel
theorem dX3_serveTop_1 : decode cX3_serveTop 1 = .ok (.getfield 67, 3) := by decide +kernel
theorem dX3_serveTop_4 : decode cX3_serveTop 4 = .ok (.ifCond .ne 4, 3) := by decide +kernel
theorem dX3_serveTop_7 : decode cX3_serveTop 7 = .ok (.return_, 1) := by decide +kernel
theorem dX3_serveTop_8 : decode cX3_serveTop 8 = .ok (.aload_n 0, 1) := by decide +kernel
theorem dX3_serveTop_9 : decode cX3_serveTop 9 = .ok (.getfield 39, 3) := by decide +kernel
theorem dX3_serveTop_12 : decode cX3_serveTop 12 = .ok (.aload_n 0, 1) := by decide +kernel
theorem dX3_serveTop_13 : decode cX3_serveTop 13 = .ok (.getfield 67, 3) := by decide +kernel
theorem dX3_serveTop_16 : decode cX3_serveTop 16 = .ok (.iconst 1, 1) := by decide +kernel
theorem dX3_serveTop_17 : decode cX3_serveTop 17 = .ok (.isub, 1) := by decide +kernel
theorem dX3_serveTop_18 : decode cX3_serveTop 18 = .ok (.aaload, 1) := by decide +kernel
theorem dX3_serveTop_19 : decode cX3_serveTop 19 = .ok (.astore_n 1, 1) := by decide +kernel
theorem dX3_serveTop_20 : decode cX3_serveTop 20 = .ok (.aload_n 0, 1) := by decide +kernel
theorem dX3_serveTop_21 : decode cX3_serveTop 21 = .ok (.dup, 1) := by decide +kernel
theorem dX3_serveTop_22 : decode cX3_serveTop 22 = .ok (.getfield 73, 3) := by decide +kernel
theorem dX3_serveTop_25 : decode cX3_serveTop 25 = .ok (.iconst 1, 1) := by decide +kernel
theorem dX3_serveTop_26 : decode cX3_serveTop 26 = .ok (.iadd, 1) := by decide +kernel
theorem dX3_serveTop_27 : decode cX3_serveTop 27 = .ok (.putfield 73, 3) := by decide +kernel
theorem dX3_serveTop_30 : decode cX3_serveTop 30 = .ok (.aload_n 1, 1) := by decide +kernel
theorem dX3_serveTop_31 : decode cX3_serveTop 31 = .ok (.dup, 1) := by decide +kernel
theorem dX3_serveTop_32 : decode cX3_serveTop 32 = .ok (.getfield 179, 3) := by decide +kernel
theorem dX3_serveTop_35 : decode cX3_serveTop 35 = .ok (.iconst 1, 1) := by decide +kernel
theorem dX3_serveTop_36 : decode cX3_serveTop 36 = .ok (.isub, 1) := by decide +kernel
theorem dX3_serveTop_37 : decode cX3_serveTop 37 = .ok (.putfield 179, 3) := by decide +kernel
theorem dX3_serveTop_40 : decode cX3_serveTop 40 = .ok (.aload_n 1, 1) := by decide +kernel
theorem dX3_serveTop_41 : decode cX3_serveTop 41 = .ok (.getfield 179, 3) := by decide +kernel
theorem dX3_serveTop_44 : decode cX3_serveTop 44 = .ok (.ifCond .gt 25, 3) := by decide +kernel
theorem dX3_serveTop_47 : decode cX3_serveTop 47 = .ok (.aload_n 0, 1) := by decide +kernel
theorem dX3_serveTop_48 : decode cX3_serveTop 48 = .ok (.dup, 1) := by decide +kernel
theorem dX3_serveTop_49 : decode cX3_serveTop 49 = .ok (.getfield 67, 3) := by decide +kernel
theorem dX3_serveTop_52 : decode cX3_serveTop 52 = .ok (.iconst 1, 1) := by decide +kernel
theorem dX3_serveTop_53 : decode cX3_serveTop 53 = .ok (.isub, 1) := by decide +kernel
theorem dX3_serveTop_54 : decode cX3_serveTop 54 = .ok (.putfield 67, 3) := by decide +kernel
theorem dX3_serveTop_57 : decode cX3_serveTop 57 = .ok (.aload_n 0, 1) := by decide +kernel
theorem dX3_serveTop_58 : decode cX3_serveTop 58 = .ok (.getfield 25, 3) := by decide +kernel
theorem dX3_serveTop_61 : decode cX3_serveTop 61 = .ok (.aload_n 1, 1) := by decide +kernel
theorem dX3_serveTop_62 : decode cX3_serveTop 62 = .ok (.getfield 173, 3) := by decide +kernel
theorem dX3_serveTop_65 : decode cX3_serveTop 65 = .ok (.aaload, 1) := by decide +kernel
theorem dX3_serveTop_66 : decode cX3_serveTop 66 = .ok (.invokevirtual 189, 3) := by decide +kernel
theorem dX3_serveTop_69 : decode cX3_serveTop 69 = .ok (.return_, 1) := by decide +kernel
theorem dX3_growWaits_0 : decode cX3_growWaits 0 = .ok (.iconst 0, 1) := by decide +kernel
theorem dX3_growWaits_1 : decode cX3_growWaits 1 = .ok (.istore_n 1, 1) := by decide +kernel
theorem dX3_growWaits_2 : decode cX3_growWaits 2 = .ok (.iload_n 1, 1) := by decide +kernel
theorem dX3_growWaits_3 : decode cX3_growWaits 3 = .ok (.aload_n 0, 1) := by decide +kernel
theorem dX3_growWaits_4 : decode cX3_growWaits 4 = .ok (.getfield 54, 3) := by decide +kernel
theorem dX3_growWaits_7 : decode cX3_growWaits 7 = .ok (.if_icmp .ge 36, 3) := by decide +kernel
theorem dX3_growWaits_10 : decode cX3_growWaits 10 = .ok (.aload_n 0, 1) := by decide +kernel
theorem dX3_growWaits_11 : decode cX3_growWaits 11 = .ok (.getfield 25, 3) := by decide +kernel
theorem dX3_growWaits_14 : decode cX3_growWaits 14 = .ok (.iload_n 1, 1) := by decide +kernel
theorem dX3_growWaits_15 : decode cX3_growWaits 15 = .ok (.aaload, 1) := by decide +kernel
theorem dX3_growWaits_16 : decode cX3_growWaits 16 = .ok (.getfield 192, 3) := by decide +kernel
theorem dX3_growWaits_19 : decode cX3_growWaits 19 = .ok (.ifCond .eq 18, 3) := by decide +kernel
theorem dX3_growWaits_22 : decode cX3_growWaits 22 = .ok (.aload_n 0, 1) := by decide +kernel
theorem dX3_growWaits_23 : decode cX3_growWaits 23 = .ok (.getfield 25, 3) := by decide +kernel
theorem dX3_growWaits_26 : decode cX3_growWaits 26 = .ok (.iload_n 1, 1) := by decide +kernel
theorem dX3_growWaits_27 : decode cX3_growWaits 27 = .ok (.aaload, 1) := by decide +kernel
theorem dX3_growWaits_28 : decode cX3_growWaits 28 = .ok (.dup, 1) := by decide +kernel
theorem dX3_growWaits_29 : decode cX3_growWaits 29 = .ok (.getfield 164, 3) := by decide +kernel
theorem dX3_growWaits_32 : decode cX3_growWaits 32 = .ok (.iconst 1, 1) := by decide +kernel
theorem dX3_growWaits_33 : decode cX3_growWaits 33 = .ok (.iadd, 1) := by decide +kernel
theorem dX3_growWaits_34 : decode cX3_growWaits 34 = .ok (.putfield 164, 3) := by decide +kernel
theorem dX3_growWaits_37 : decode cX3_growWaits 37 = .ok (.iinc 1 1, 3) := by decide +kernel
theorem dX3_growWaits_40 : decode cX3_growWaits 40 = .ok (.goto (-38), 3) := by decide +kernel
theorem dX3_growWaits_43 : decode cX3_growWaits 43 = .ok (.return_, 1) := by decide +kernel
theorem dX3_numberOfLine_0 : decode cX3_numberOfLine 0 = .ok (.aload_n 0, 1) := by decide +kernel
theorem dX3_numberOfLine_1 : decode cX3_numberOfLine 1 = .ok (.iload_n 1, 1) := by decide +kernel
theorem dX3_numberOfLine_2 : decode cX3_numberOfLine 2 = .ok (.invokevirtual 103, 3) := by decide +kernel
theorem dX3_numberOfLine_5 : decode cX3_numberOfLine 5 = .ok (.ifCond .ne 5, 3) := by decide +kernel
theorem dX3_numberOfLine_8 : decode cX3_numberOfLine 8 = .ok (.iconst (-1), 1) := by decide +kernel
theorem dX3_numberOfLine_9 : decode cX3_numberOfLine 9 = .ok (.ireturn, 1) := by decide +kernel
theorem dX3_numberOfLine_10 : decode cX3_numberOfLine 10 = .ok (.aload_n 0, 1) := by decide +kernel
theorem dX3_numberOfLine_11 : decode cX3_numberOfLine 11 = .ok (.getfield 25, 3) := by decide +kernel
theorem dX3_numberOfLine_14 : decode cX3_numberOfLine 14 = .ok (.iload_n 1, 1) := by decide +kernel
theorem dX3_numberOfLine_15 : decode cX3_numberOfLine 15 = .ok (.aaload, 1) := by decide +kernel
theorem dX3_numberOfLine_16 : decode cX3_numberOfLine 16 = .ok (.iload_n 2, 1) := by decide +kernel
theorem dX3_numberOfLine_17 : decode cX3_numberOfLine 17 = .ok (.aload_n 0, 1) := by decide +kernel
theorem dX3_numberOfLine_18 : decode cX3_numberOfLine 18 = .ok (.getfield 18, 3) := by decide +kernel
theorem dX3_numberOfLine_21 : decode cX3_numberOfLine 21 = .ok (.iconst 0, 1) := by decide +kernel
theorem dX3_numberOfLine_22 : decode cX3_numberOfLine 22 = .ok (.iaload, 1) := by decide +kernel
theorem dX3_numberOfLine_23 : decode cX3_numberOfLine 23 = .ok (.aload_n 0, 1) := by decide +kernel
theorem dX3_numberOfLine_24 : decode cX3_numberOfLine 24 = .ok (.getfield 18, 3) := by decide +kernel
theorem dX3_numberOfLine_27 : decode cX3_numberOfLine 27 = .ok (.iconst 1, 1) := by decide +kernel
theorem dX3_numberOfLine_28 : decode cX3_numberOfLine 28 = .ok (.iaload, 1) := by decide +kernel
theorem dX3_numberOfLine_29 : decode cX3_numberOfLine 29 = .ok (.invokevirtual 195, 3) := by decide +kernel
theorem dX3_numberOfLine_32 : decode cX3_numberOfLine 32 = .ok (.ireturn, 1) := by decide +kernel
theorem dX3_numberOfPlace_0 : decode cX3_numberOfPlace 0 = .ok (.iload_n 1, 1) := by decide +kernel
theorem dX3_numberOfPlace_1 : decode cX3_numberOfPlace 1 = .ok (.iconst 0, 1) := by decide +kernel
theorem dX3_numberOfPlace_2 : decode cX3_numberOfPlace 2 = .ok (.aload_n 0, 1) := by decide +kernel
theorem dX3_numberOfPlace_3 : decode cX3_numberOfPlace 3 = .ok (.getfield 67, 3) := by decide +kernel
theorem dX3_numberOfPlace_6 : decode cX3_numberOfPlace 6 = .ok (.iconst 1, 1) := by decide +kernel
theorem dX3_numberOfPlace_7 : decode cX3_numberOfPlace 7 = .ok (.isub, 1) := by decide +kernel
theorem dX3_numberOfPlace_8 : decode cX3_numberOfPlace 8 = .ok (.invokestatic 82, 3) := by decide +kernel
theorem dX3_numberOfPlace_11 : decode cX3_numberOfPlace 11 = .ok (.ifCond .eq 16, 3) := by decide +kernel
theorem dX3_numberOfPlace_14 : decode cX3_numberOfPlace 14 = .ok (.aload_n 0, 1) := by decide +kernel
theorem dX3_numberOfPlace_15 : decode cX3_numberOfPlace 15 = .ok (.getfield 39, 3) := by decide +kernel
theorem dX3_numberOfPlace_18 : decode cX3_numberOfPlace 18 = .ok (.iload_n 1, 1) := by decide +kernel
theorem dX3_numberOfPlace_19 : decode cX3_numberOfPlace 19 = .ok (.aaload, 1) := by decide +kernel
theorem dX3_numberOfPlace_20 : decode cX3_numberOfPlace 20 = .ok (.iload_n 2, 1) := by decide +kernel
theorem dX3_numberOfPlace_21 : decode cX3_numberOfPlace 21 = .ok (.invokevirtual 199, 3) := by decide +kernel
theorem dX3_numberOfPlace_24 : decode cX3_numberOfPlace 24 = .ok (.goto 4, 3) := by decide +kernel
theorem dX3_numberOfPlace_27 : decode cX3_numberOfPlace 27 = .ok (.iconst (-1), 1) := by decide +kernel
theorem dX3_numberOfPlace_28 : decode cX3_numberOfPlace 28 = .ok (.ireturn, 1) := by decide +kernel
theorem dX3_numberOfTimer_0 : decode cX3_numberOfTimer 0 = .ok (.aload_n 0, 1) := by decide +kernel
theorem dX3_numberOfTimer_1 : decode cX3_numberOfTimer 1 = .ok (.iload_n 1, 1) := by decide +kernel
theorem dX3_numberOfTimer_2 : decode cX3_numberOfTimer 2 = .ok (.invokevirtual 123, 3) := by decide +kernel
theorem dX3_numberOfTimer_5 : decode cX3_numberOfTimer 5 = .ok (.ifCond .eq 16, 3) := by decide +kernel
theorem dX3_numberOfTimer_8 : decode cX3_numberOfTimer 8 = .ok (.aload_n 0, 1) := by decide +kernel
theorem dX3_numberOfTimer_9 : decode cX3_numberOfTimer 9 = .ok (.getfield 32, 3) := by decide +kernel
theorem dX3_numberOfTimer_12 : decode cX3_numberOfTimer 12 = .ok (.iload_n 1, 1) := by decide +kernel
theorem dX3_numberOfTimer_13 : decode cX3_numberOfTimer 13 = .ok (.aaload, 1) := by decide +kernel
theorem dX3_numberOfTimer_14 : decode cX3_numberOfTimer 14 = .ok (.iload_n 2, 1) := by decide +kernel
theorem dX3_numberOfTimer_15 : decode cX3_numberOfTimer 15 = .ok (.invokevirtual 201, 3) := by decide +kernel
theorem dX3_numberOfTimer_18 : decode cX3_numberOfTimer 18 = .ok (.goto 4, 3) := by decide +kernel
theorem dX3_numberOfTimer_21 : decode cX3_numberOfTimer 21 = .ok (.iconst (-1), 1) := by decide +kernel
theorem dX3_numberOfTimer_22 : decode cX3_numberOfTimer 22 = .ok (.ireturn, 1) := by decide +kernel
theorem dX3_numberOfAll_0 : decode cX3_numberOfAll 0 = .ok (.iload_n 1, 1) := by decide +kernel
theorem dX3_numberOfAll_1 : decode cX3_numberOfAll 1 = .ok (.bipush 12, 2) := by decide +kernel
theorem dX3_numberOfAll_3 : decode cX3_numberOfAll 3 = .ok (.isub, 1) := by decide +kernel
theorem dX3_numberOfAll_4 : decode cX3_numberOfAll 4 = .ok (.istore_n 2, 1) := by decide +kernel
theorem dX3_numberOfAll_5 : decode cX3_numberOfAll 5 = .ok (.iload_n 1, 1) := by decide +kernel
theorem dX3_numberOfAll_6 : decode cX3_numberOfAll 6 = .ok (.bipush 12, 2) := by decide +kernel
theorem dX3_numberOfAll_8 : decode cX3_numberOfAll 8 = .ok (.if_icmp .lt 19, 3) := by decide +kernel
theorem dX3_numberOfAll_11 : decode cX3_numberOfAll 11 = .ok (.iload_n 2, 1) := by decide +kernel
theorem dX3_numberOfAll_12 : decode cX3_numberOfAll 12 = .ok (.aload_n 0, 1) := by decide +kernel
theorem dX3_numberOfAll_13 : decode cX3_numberOfAll 13 = .ok (.getfield 18, 3) := by decide +kernel
theorem dX3_numberOfAll_16 : decode cX3_numberOfAll 16 = .ok (.arraylength, 1) := by decide +kernel
theorem dX3_numberOfAll_17 : decode cX3_numberOfAll 17 = .ok (.if_icmp .ge 10, 3) := by decide +kernel
theorem dX3_numberOfAll_20 : decode cX3_numberOfAll 20 = .ok (.aload_n 0, 1) := by decide +kernel
theorem dX3_numberOfAll_21 : decode cX3_numberOfAll 21 = .ok (.getfield 18, 3) := by decide +kernel
theorem dX3_numberOfAll_24 : decode cX3_numberOfAll 24 = .ok (.iload_n 2, 1) := by decide +kernel
theorem dX3_numberOfAll_25 : decode cX3_numberOfAll 25 = .ok (.iaload, 1) := by decide +kernel
theorem dX3_numberOfAll_26 : decode cX3_numberOfAll 26 = .ok (.ireturn, 1) := by decide +kernel
theorem dX3_numberOfAll_27 : decode cX3_numberOfAll 27 = .ok (.iload_n 1, 1) := by decide +kernel
theorem dX3_numberOfAll_28 : decode cX3_numberOfAll 28 = .ok (.tableswitch 106 0 9 #[56, 61, 66, 71, 76, 81, 86, 91, 96, 101], 56) := by decide +kernel
theorem dX3_numberOfAll_84 : decode cX3_numberOfAll 84 = .ok (.aload_n 0, 1) := by decide +kernel
theorem dX3_numberOfAll_85 : decode cX3_numberOfAll 85 = .ok (.getfield 44, 3) := by decide +kernel
theorem dX3_numberOfAll_88 : decode cX3_numberOfAll 88 = .ok (.ireturn, 1) := by decide +kernel
theorem dX3_numberOfAll_89 : decode cX3_numberOfAll 89 = .ok (.aload_n 0, 1) := by decide +kernel
theorem dX3_numberOfAll_90 : decode cX3_numberOfAll 90 = .ok (.getfield 54, 3) := by decide +kernel
theorem dX3_numberOfAll_93 : decode cX3_numberOfAll 93 = .ok (.ireturn, 1) := by decide +kernel
theorem dX3_numberOfAll_94 : decode cX3_numberOfAll 94 = .ok (.aload_n 0, 1) := by decide +kernel
theorem dX3_numberOfAll_95 : decode cX3_numberOfAll 95 = .ok (.getfield 61, 3) := by decide +kernel
theorem dX3_numberOfAll_98 : decode cX3_numberOfAll 98 = .ok (.ireturn, 1) := by decide +kernel
theorem dX3_numberOfAll_99 : decode cX3_numberOfAll 99 = .ok (.aload_n 0, 1) := by decide +kernel
theorem dX3_numberOfAll_100 : decode cX3_numberOfAll 100 = .ok (.getfield 67, 3) := by decide +kernel
theorem dX3_numberOfAll_103 : decode cX3_numberOfAll 103 = .ok (.ireturn, 1) := by decide +kernel
theorem dX3_numberOfAll_104 : decode cX3_numberOfAll 104 = .ok (.aload_n 0, 1) := by decide +kernel
theorem dX3_numberOfAll_105 : decode cX3_numberOfAll 105 = .ok (.invokevirtual 202, 3) := by decide +kernel
theorem dX3_numberOfAll_108 : decode cX3_numberOfAll 108 = .ok (.ireturn, 1) := by decide +kernel
theorem dX3_numberOfAll_109 : decode cX3_numberOfAll 109 = .ok (.aload_n 0, 1) := by decide +kernel
theorem dX3_numberOfAll_110 : decode cX3_numberOfAll 110 = .ok (.invokevirtual 167, 3) := by decide +kernel
theorem dX3_numberOfAll_113 : decode cX3_numberOfAll 113 = .ok (.ireturn, 1) := by decide +kernel
theorem dX3_numberOfAll_114 : decode cX3_numberOfAll 114 = .ok (.aload_n 0, 1) := by decide +kernel
theorem dX3_numberOfAll_115 : decode cX3_numberOfAll 115 = .ok (.getfield 73, 3) := by decide +kernel
theorem dX3_numberOfAll_118 : decode cX3_numberOfAll 118 = .ok (.ireturn, 1) := by decide +kernel
theorem dX3_numberOfAll_119 : decode cX3_numberOfAll 119 = .ok (.aload_n 0, 1) := by decide +kernel
theorem dX3_numberOfAll_120 : decode cX3_numberOfAll 120 = .ok (.getfield 76, 3) := by decide +kernel
theorem dX3_numberOfAll_123 : decode cX3_numberOfAll 123 = .ok (.ireturn, 1) := by decide +kernel
theorem dX3_numberOfAll_124 : decode cX3_numberOfAll 124 = .ok (.aload_n 0, 1) := by decide +kernel
theorem dX3_numberOfAll_125 : decode cX3_numberOfAll 125 = .ok (.invokevirtual 205, 3) := by decide +kernel
theorem dX3_numberOfAll_128 : decode cX3_numberOfAll 128 = .ok (.ireturn, 1) := by decide +kernel
theorem dX3_numberOfAll_129 : decode cX3_numberOfAll 129 = .ok (.aload_n 0, 1) := by decide +kernel
theorem dX3_numberOfAll_130 : decode cX3_numberOfAll 130 = .ok (.getfield 79, 3) := by decide +kernel
theorem dX3_numberOfAll_133 : decode cX3_numberOfAll 133 = .ok (.ireturn, 1) := by decide +kernel
theorem dX3_numberOfAll_134 : decode cX3_numberOfAll 134 = .ok (.bipush (-2), 2) := by decide +kernel
theorem dX3_numberOfAll_136 : decode cX3_numberOfAll 136 = .ok (.ireturn, 1) := by decide +kernel
theorem dX3_waitingLines_0 : decode cX3_waitingLines 0 = .ok (.iconst 0, 1) := by decide +kernel
theorem dX3_waitingLines_1 : decode cX3_waitingLines 1 = .ok (.istore_n 1, 1) := by decide +kernel
theorem dX3_waitingLines_2 : decode cX3_waitingLines 2 = .ok (.iconst 0, 1) := by decide +kernel
theorem dX3_waitingLines_3 : decode cX3_waitingLines 3 = .ok (.istore_n 2, 1) := by decide +kernel
theorem dX3_waitingLines_4 : decode cX3_waitingLines 4 = .ok (.iload_n 2, 1) := by decide +kernel
theorem dX3_waitingLines_5 : decode cX3_waitingLines 5 = .ok (.aload_n 0, 1) := by decide +kernel
theorem dX3_waitingLines_6 : decode cX3_waitingLines 6 = .ok (.getfield 54, 3) := by decide +kernel
theorem dX3_waitingLines_9 : decode cX3_waitingLines 9 = .ok (.if_icmp .ge 27, 3) := by decide +kernel
theorem dX3_waitingLines_12 : decode cX3_waitingLines 12 = .ok (.aload_n 0, 1) := by decide +kernel
theorem dX3_waitingLines_13 : decode cX3_waitingLines 13 = .ok (.getfield 25, 3) := by decide +kernel
theorem dX3_waitingLines_16 : decode cX3_waitingLines 16 = .ok (.iload_n 2, 1) := by decide +kernel
theorem dX3_waitingLines_17 : decode cX3_waitingLines 17 = .ok (.aaload, 1) := by decide +kernel
theorem dX3_waitingLines_18 : decode cX3_waitingLines 18 = .ok (.getfield 192, 3) := by decide +kernel
theorem dX3_waitingLines_21 : decode cX3_waitingLines 21 = .ok (.ifCond .eq 9, 3) := by decide +kernel
theorem dX3_waitingLines_24 : decode cX3_waitingLines 24 = .ok (.iload_n 1, 1) := by decide +kernel
theorem dX3_waitingLines_25 : decode cX3_waitingLines 25 = .ok (.iconst 1, 1) := by decide +kernel
theorem dX3_waitingLines_26 : decode cX3_waitingLines 26 = .ok (.iload_n 2, 1) := by decide +kernel
theorem dX3_waitingLines_27 : decode cX3_waitingLines 27 = .ok (.ishl, 1) := by decide +kernel
theorem dX3_waitingLines_28 : decode cX3_waitingLines 28 = .ok (.ior, 1) := by decide +kernel
theorem dX3_waitingLines_29 : decode cX3_waitingLines 29 = .ok (.istore_n 1, 1) := by decide +kernel
theorem dX3_waitingLines_30 : decode cX3_waitingLines 30 = .ok (.iinc 2 1, 3) := by decide +kernel
theorem dX3_waitingLines_33 : decode cX3_waitingLines 33 = .ok (.goto (-29), 3) := by decide +kernel
theorem dX3_waitingLines_36 : decode cX3_waitingLines 36 = .ok (.iload_n 1, 1) := by decide +kernel
theorem dX3_waitingLines_37 : decode cX3_waitingLines 37 = .ok (.ireturn, 1) := by decide +kernel
theorem dX3_missesOfAll_0 : decode cX3_missesOfAll 0 = .ok (.iconst 0, 1) := by decide +kernel
theorem dX3_missesOfAll_1 : decode cX3_missesOfAll 1 = .ok (.istore_n 1, 1) := by decide +kernel
theorem dX3_missesOfAll_2 : decode cX3_missesOfAll 2 = .ok (.iconst 0, 1) := by decide +kernel
theorem dX3_missesOfAll_3 : decode cX3_missesOfAll 3 = .ok (.istore_n 2, 1) := by decide +kernel
theorem dX3_missesOfAll_4 : decode cX3_missesOfAll 4 = .ok (.iload_n 2, 1) := by decide +kernel
theorem dX3_missesOfAll_5 : decode cX3_missesOfAll 5 = .ok (.aload_n 0, 1) := by decide +kernel
theorem dX3_missesOfAll_6 : decode cX3_missesOfAll 6 = .ok (.getfield 54, 3) := by decide +kernel
theorem dX3_missesOfAll_9 : decode cX3_missesOfAll 9 = .ok (.if_icmp .ge 21, 3) := by decide +kernel
theorem dX3_missesOfAll_12 : decode cX3_missesOfAll 12 = .ok (.iload_n 1, 1) := by decide +kernel
theorem dX3_missesOfAll_13 : decode cX3_missesOfAll 13 = .ok (.aload_n 0, 1) := by decide +kernel
theorem dX3_missesOfAll_14 : decode cX3_missesOfAll 14 = .ok (.getfield 25, 3) := by decide +kernel
theorem dX3_missesOfAll_17 : decode cX3_missesOfAll 17 = .ok (.iload_n 2, 1) := by decide +kernel
theorem dX3_missesOfAll_18 : decode cX3_missesOfAll 18 = .ok (.aaload, 1) := by decide +kernel
theorem dX3_missesOfAll_19 : decode cX3_missesOfAll 19 = .ok (.getfield 208, 3) := by decide +kernel
theorem dX3_missesOfAll_22 : decode cX3_missesOfAll 22 = .ok (.iadd, 1) := by decide +kernel
theorem dX3_missesOfAll_23 : decode cX3_missesOfAll 23 = .ok (.istore_n 1, 1) := by decide +kernel
theorem dX3_missesOfAll_24 : decode cX3_missesOfAll 24 = .ok (.iinc 2 1, 3) := by decide +kernel
theorem dX3_missesOfAll_27 : decode cX3_missesOfAll 27 = .ok (.goto (-23), 3) := by decide +kernel
theorem dX3_missesOfAll_30 : decode cX3_missesOfAll 30 = .ok (.iload_n 1, 1) := by decide +kernel
theorem dX3_missesOfAll_31 : decode cX3_missesOfAll 31 = .ok (.ireturn, 1) := by decide +kernel
theorem dX3_ticksUntilBegin_0 : decode cX3_ticksUntilBegin 0 = .ok (.iconst 0, 1) := by decide +kernel
theorem dX3_ticksUntilBegin_1 : decode cX3_ticksUntilBegin 1 = .ok (.istore_n 3, 1) := by decide +kernel
theorem dX3_ticksUntilBegin_2 : decode cX3_ticksUntilBegin 2 = .ok (.iload_n 3, 1) := by decide +kernel
theorem dX3_ticksUntilBegin_3 : decode cX3_ticksUntilBegin 3 = .ok (.iload_n 2, 1) := by decide +kernel
theorem dX3_ticksUntilBegin_4 : decode cX3_ticksUntilBegin 4 = .ok (.if_icmp .ge 19, 3) := by decide +kernel
theorem dX3_ticksUntilBegin_7 : decode cX3_ticksUntilBegin 7 = .ok (.aload_n 0, 1) := by decide +kernel
theorem dX3_ticksUntilBegin_8 : decode cX3_ticksUntilBegin 8 = .ok (.invokevirtual 140, 3) := by decide +kernel
theorem dX3_ticksUntilBegin_11 : decode cX3_ticksUntilBegin 11 = .ok (.iload_n 1, 1) := by decide +kernel
theorem dX3_ticksUntilBegin_12 : decode cX3_ticksUntilBegin 12 = .ok (.if_icmp .ne 5, 3) := by decide +kernel
theorem dX3_ticksUntilBegin_15 : decode cX3_ticksUntilBegin 15 = .ok (.iload_n 3, 1) := by decide +kernel
theorem dX3_ticksUntilBegin_16 : decode cX3_ticksUntilBegin 16 = .ok (.ireturn, 1) := by decide +kernel
theorem dX3_ticksUntilBegin_17 : decode cX3_ticksUntilBegin 17 = .ok (.iinc 3 1, 3) := by decide +kernel
theorem dX3_ticksUntilBegin_20 : decode cX3_ticksUntilBegin 20 = .ok (.goto (-18), 3) := by decide +kernel
theorem dX3_ticksUntilBegin_23 : decode cX3_ticksUntilBegin 23 = .ok (.bipush (-6), 2) := by decide +kernel
theorem dX3_ticksUntilBegin_25 : decode cX3_ticksUntilBegin 25 = .ok (.ireturn, 1) := by decide +kernel
theorem dX3_ticksUntilIdle_0 : decode cX3_ticksUntilIdle 0 = .ok (.iconst 0, 1) := by decide +kernel
theorem dX3_ticksUntilIdle_1 : decode cX3_ticksUntilIdle 1 = .ok (.istore_n 2, 1) := by decide +kernel
theorem dX3_ticksUntilIdle_2 : decode cX3_ticksUntilIdle 2 = .ok (.iload_n 2, 1) := by decide +kernel
theorem dX3_ticksUntilIdle_3 : decode cX3_ticksUntilIdle 3 = .ok (.iload_n 1, 1) := by decide +kernel
theorem dX3_ticksUntilIdle_4 : decode cX3_ticksUntilIdle 4 = .ok (.if_icmp .ge 23, 3) := by decide +kernel
theorem dX3_ticksUntilIdle_7 : decode cX3_ticksUntilIdle 7 = .ok (.aload_n 0, 1) := by decide +kernel
theorem dX3_ticksUntilIdle_8 : decode cX3_ticksUntilIdle 8 = .ok (.getfield 67, 3) := by decide +kernel
theorem dX3_ticksUntilIdle_11 : decode cX3_ticksUntilIdle 11 = .ok (.ifCond .ne 5, 3) := by decide +kernel
theorem dX3_ticksUntilIdle_14 : decode cX3_ticksUntilIdle 14 = .ok (.iload_n 2, 1) := by decide +kernel
theorem dX3_ticksUntilIdle_15 : decode cX3_ticksUntilIdle 15 = .ok (.ireturn, 1) := by decide +kernel
theorem dX3_ticksUntilIdle_16 : decode cX3_ticksUntilIdle 16 = .ok (.aload_n 0, 1) := by decide +kernel
theorem dX3_ticksUntilIdle_17 : decode cX3_ticksUntilIdle 17 = .ok (.invokevirtual 140, 3) := by decide +kernel
theorem dX3_ticksUntilIdle_20 : decode cX3_ticksUntilIdle 20 = .ok (.pop, 1) := by decide +kernel
theorem dX3_ticksUntilIdle_21 : decode cX3_ticksUntilIdle 21 = .ok (.iinc 2 1, 3) := by decide +kernel
theorem dX3_ticksUntilIdle_24 : decode cX3_ticksUntilIdle 24 = .ok (.goto (-22), 3) := by decide +kernel
theorem dX3_ticksUntilIdle_27 : decode cX3_ticksUntilIdle 27 = .ok (.aload_n 0, 1) := by decide +kernel
theorem dX3_ticksUntilIdle_28 : decode cX3_ticksUntilIdle 28 = .ok (.getfield 67, 3) := by decide +kernel
theorem dX3_ticksUntilIdle_31 : decode cX3_ticksUntilIdle 31 = .ok (.ifCond .ne 7, 3) := by decide +kernel
theorem dX3_ticksUntilIdle_34 : decode cX3_ticksUntilIdle 34 = .ok (.iload_n 1, 1) := by decide +kernel
theorem dX3_ticksUntilIdle_35 : decode cX3_ticksUntilIdle 35 = .ok (.goto 5, 3) := by decide +kernel
theorem dX3_ticksUntilIdle_38 : decode cX3_ticksUntilIdle 38 = .ok (.bipush (-6), 2) := by decide +kernel
theorem dX3_ticksUntilIdle_40 : decode cX3_ticksUntilIdle 40 = .ok (.ireturn, 1) := by decide +kernel
theorem dX3_costOf_0 : decode cX3_costOf 0 = .ok (.aload_n 0, 1) := by decide +kernel
theorem dX3_costOf_1 : decode cX3_costOf 1 = .ok (.getfield 25, 3) := by decide +kernel
theorem dX3_costOf_4 : decode cX3_costOf 4 = .ok (.iload_n 1, 1) := by decide +kernel
theorem dX3_costOf_5 : decode cX3_costOf 5 = .ok (.aaload, 1) := by decide +kernel
theorem dX3_costOf_6 : decode cX3_costOf 6 = .ok (.getfield 211, 3) := by decide +kernel
theorem dX3_costOf_9 : decode cX3_costOf 9 = .ok (.aload_n 0, 1) := by decide +kernel
theorem dX3_costOf_10 : decode cX3_costOf 10 = .ok (.getfield 18, 3) := by decide +kernel
theorem dX3_costOf_13 : decode cX3_costOf 13 = .ok (.iconst 4, 1) := by decide +kernel
theorem dX3_costOf_14 : decode cX3_costOf 14 = .ok (.iaload, 1) := by decide +kernel
theorem dX3_costOf_15 : decode cX3_costOf 15 = .ok (.iadd, 1) := by decide +kernel
theorem dX3_costOf_16 : decode cX3_costOf 16 = .ok (.ireturn, 1) := by decide +kernel
theorem dX3_leastBound_0 : decode cX3_leastBound 0 = .ok (.aload_n 0, 1) := by decide +kernel
theorem dX3_leastBound_1 : decode cX3_leastBound 1 = .ok (.iload_n 1, 1) := by decide +kernel
theorem dX3_leastBound_2 : decode cX3_leastBound 2 = .ok (.invokevirtual 103, 3) := by decide +kernel
theorem dX3_leastBound_5 : decode cX3_leastBound 5 = .ok (.ifCond .ne 5, 3) := by decide +kernel
theorem dX3_leastBound_8 : decode cX3_leastBound 8 = .ok (.iconst (-1), 1) := by decide +kernel
theorem dX3_leastBound_9 : decode cX3_leastBound 9 = .ok (.ireturn, 1) := by decide +kernel
theorem dX3_leastBound_10 : decode cX3_leastBound 10 = .ok (.aload_n 0, 1) := by decide +kernel
theorem dX3_leastBound_11 : decode cX3_leastBound 11 = .ok (.aload_n 0, 1) := by decide +kernel
theorem dX3_leastBound_12 : decode cX3_leastBound 12 = .ok (.getfield 25, 3) := by decide +kernel
theorem dX3_leastBound_15 : decode cX3_leastBound 15 = .ok (.iload_n 1, 1) := by decide +kernel
theorem dX3_leastBound_16 : decode cX3_leastBound 16 = .ok (.aaload, 1) := by decide +kernel
theorem dX3_leastBound_17 : decode cX3_leastBound 17 = .ok (.getfield 107, 3) := by decide +kernel
theorem dX3_leastBound_20 : decode cX3_leastBound 20 = .ok (.invokevirtual 214, 3) := by decide +kernel
theorem dX3_leastBound_23 : decode cX3_leastBound 23 = .ok (.aload_n 0, 1) := by decide +kernel
theorem dX3_leastBound_24 : decode cX3_leastBound 24 = .ok (.iload_n 1, 1) := by decide +kernel
theorem dX3_leastBound_25 : decode cX3_leastBound 25 = .ok (.invokevirtual 175, 3) := by decide +kernel
theorem dX3_leastBound_28 : decode cX3_leastBound 28 = .ok (.iadd, 1) := by decide +kernel
theorem dX3_leastBound_29 : decode cX3_leastBound 29 = .ok (.istore_n 2, 1) := by decide +kernel
theorem dX3_leastBound_30 : decode cX3_leastBound 30 = .ok (.iconst 1, 1) := by decide +kernel
theorem dX3_leastBound_31 : decode cX3_leastBound 31 = .ok (.istore_n 3, 1) := by decide +kernel
theorem dX3_leastBound_32 : decode cX3_leastBound 32 = .ok (.iload_n 3, 1) := by decide +kernel
theorem dX3_leastBound_33 : decode cX3_leastBound 33 = .ok (.sipush 3000, 3) := by decide +kernel
theorem dX3_leastBound_36 : decode cX3_leastBound 36 = .ok (.if_icmp .gt 23, 3) := by decide +kernel
theorem dX3_leastBound_39 : decode cX3_leastBound 39 = .ok (.iload_n 3, 1) := by decide +kernel
theorem dX3_leastBound_40 : decode cX3_leastBound 40 = .ok (.iload_n 2, 1) := by decide +kernel
theorem dX3_leastBound_41 : decode cX3_leastBound 41 = .ok (.aload_n 0, 1) := by decide +kernel
theorem dX3_leastBound_42 : decode cX3_leastBound 42 = .ok (.iload_n 1, 1) := by decide +kernel
theorem dX3_leastBound_43 : decode cX3_leastBound 43 = .ok (.iload_n 3, 1) := by decide +kernel
theorem dX3_leastBound_44 : decode cX3_leastBound 44 = .ok (.invokevirtual 217, 3) := by decide +kernel
theorem dX3_leastBound_47 : decode cX3_leastBound 47 = .ok (.iadd, 1) := by decide +kernel
theorem dX3_leastBound_48 : decode cX3_leastBound 48 = .ok (.if_icmp .ne 5, 3) := by decide +kernel
theorem dX3_leastBound_51 : decode cX3_leastBound 51 = .ok (.iload_n 3, 1) := by decide +kernel
theorem dX3_leastBound_52 : decode cX3_leastBound 52 = .ok (.ireturn, 1) := by decide +kernel
theorem dX3_leastBound_53 : decode cX3_leastBound 53 = .ok (.iinc 3 1, 3) := by decide +kernel
theorem dX3_leastBound_56 : decode cX3_leastBound 56 = .ok (.goto (-24), 3) := by decide +kernel
theorem dX3_leastBound_59 : decode cX3_leastBound 59 = .ok (.bipush (-6), 2) := by decide +kernel
theorem dX3_leastBound_61 : decode cX3_leastBound 61 = .ok (.ireturn, 1) := by decide +kernel
theorem dX3_greatestCostBelow_0 : decode cX3_greatestCostBelow 0 = .ok (.iconst 0, 1) := by decide +kernel
theorem dX3_greatestCostBelow_1 : decode cX3_greatestCostBelow 1 = .ok (.istore_n 2, 1) := by decide +kernel
theorem dX3_greatestCostBelow_2 : decode cX3_greatestCostBelow 2 = .ok (.iconst 0, 1) := by decide +kernel
theorem dX3_greatestCostBelow_3 : decode cX3_greatestCostBelow 3 = .ok (.istore_n 3, 1) := by decide +kernel
theorem dX3_greatestCostBelow_4 : decode cX3_greatestCostBelow 4 = .ok (.iload_n 3, 1) := by decide +kernel
theorem dX3_greatestCostBelow_5 : decode cX3_greatestCostBelow 5 = .ok (.aload_n 0, 1) := by decide +kernel
theorem dX3_greatestCostBelow_6 : decode cX3_greatestCostBelow 6 = .ok (.getfield 54, 3) := by decide +kernel
theorem dX3_greatestCostBelow_9 : decode cX3_greatestCostBelow 9 = .ok (.if_icmp .ge 37, 3) := by decide +kernel
theorem dX3_greatestCostBelow_12 : decode cX3_greatestCostBelow 12 = .ok (.aload_n 0, 1) := by decide +kernel
theorem dX3_greatestCostBelow_13 : decode cX3_greatestCostBelow 13 = .ok (.getfield 25, 3) := by decide +kernel
theorem dX3_greatestCostBelow_16 : decode cX3_greatestCostBelow 16 = .ok (.iload_n 3, 1) := by decide +kernel
theorem dX3_greatestCostBelow_17 : decode cX3_greatestCostBelow 17 = .ok (.aaload, 1) := by decide +kernel
theorem dX3_greatestCostBelow_18 : decode cX3_greatestCostBelow 18 = .ok (.getfield 107, 3) := by decide +kernel
theorem dX3_greatestCostBelow_21 : decode cX3_greatestCostBelow 21 = .ok (.iload_n 1, 1) := by decide +kernel
theorem dX3_greatestCostBelow_22 : decode cX3_greatestCostBelow 22 = .ok (.if_icmp .ge 18, 3) := by decide +kernel
theorem dX3_greatestCostBelow_25 : decode cX3_greatestCostBelow 25 = .ok (.aload_n 0, 1) := by decide +kernel
theorem dX3_greatestCostBelow_26 : decode cX3_greatestCostBelow 26 = .ok (.iload_n 3, 1) := by decide +kernel
theorem dX3_greatestCostBelow_27 : decode cX3_greatestCostBelow 27 = .ok (.invokevirtual 175, 3) := by decide +kernel
theorem dX3_greatestCostBelow_30 : decode cX3_greatestCostBelow 30 = .ok (.iload_n 2, 1) := by decide +kernel
theorem dX3_greatestCostBelow_31 : decode cX3_greatestCostBelow 31 = .ok (.if_icmp .le 9, 3) := by decide +kernel
theorem dX3_greatestCostBelow_34 : decode cX3_greatestCostBelow 34 = .ok (.aload_n 0, 1) := by decide +kernel
theorem dX3_greatestCostBelow_35 : decode cX3_greatestCostBelow 35 = .ok (.iload_n 3, 1) := by decide +kernel
theorem dX3_greatestCostBelow_36 : decode cX3_greatestCostBelow 36 = .ok (.invokevirtual 175, 3) := by decide +kernel
theorem dX3_greatestCostBelow_39 : decode cX3_greatestCostBelow 39 = .ok (.istore_n 2, 1) := by decide +kernel
theorem dX3_greatestCostBelow_40 : decode cX3_greatestCostBelow 40 = .ok (.iinc 3 1, 3) := by decide +kernel
theorem dX3_greatestCostBelow_43 : decode cX3_greatestCostBelow 43 = .ok (.goto (-39), 3) := by decide +kernel
theorem dX3_greatestCostBelow_46 : decode cX3_greatestCostBelow 46 = .ok (.iload_n 2, 1) := by decide +kernel
theorem dX3_greatestCostBelow_47 : decode cX3_greatestCostBelow 47 = .ok (.ireturn, 1) := by decide +kernel
theorem dX3_costOfRivals_0 : decode cX3_costOfRivals 0 = .ok (.iconst 0, 1) := by decide +kernel
theorem dX3_costOfRivals_1 : decode cX3_costOfRivals 1 = .ok (.istore_n 3, 1) := by decide +kernel
theorem dX3_costOfRivals_2 : decode cX3_costOfRivals 2 = .ok (.iconst 0, 1) := by decide +kernel
theorem dX3_costOfRivals_3 : decode cX3_costOfRivals 3 = .ok (.istore 4, 2) := by decide +kernel
theorem dX3_costOfRivals_5 : decode cX3_costOfRivals 5 = .ok (.iload 4, 2) := by decide +kernel
theorem dX3_costOfRivals_7 : decode cX3_costOfRivals 7 = .ok (.aload_n 0, 1) := by decide +kernel
theorem dX3_costOfRivals_8 : decode cX3_costOfRivals 8 = .ok (.getfield 61, 3) := by decide +kernel
theorem dX3_costOfRivals_11 : decode cX3_costOfRivals 11 = .ok (.if_icmp .ge 77, 3) := by decide +kernel
theorem dX3_costOfRivals_14 : decode cX3_costOfRivals 14 = .ok (.aload_n 0, 1) := by decide +kernel
theorem dX3_costOfRivals_15 : decode cX3_costOfRivals 15 = .ok (.getfield 32, 3) := by decide +kernel
theorem dX3_costOfRivals_18 : decode cX3_costOfRivals 18 = .ok (.iload 4, 2) := by decide +kernel
theorem dX3_costOfRivals_20 : decode cX3_costOfRivals 20 = .ok (.aaload, 1) := by decide +kernel
theorem dX3_costOfRivals_21 : decode cX3_costOfRivals 21 = .ok (.astore 5, 2) := by decide +kernel
theorem dX3_costOfRivals_23 : decode cX3_costOfRivals 23 = .ok (.aload 5, 2) := by decide +kernel
theorem dX3_costOfRivals_25 : decode cX3_costOfRivals 25 = .ok (.getfield 114, 3) := by decide +kernel
theorem dX3_costOfRivals_28 : decode cX3_costOfRivals 28 = .ok (.iload_n 1, 1) := by decide +kernel
theorem dX3_costOfRivals_29 : decode cX3_costOfRivals 29 = .ok (.if_icmp .eq 53, 3) := by decide +kernel
theorem dX3_costOfRivals_32 : decode cX3_costOfRivals 32 = .ok (.aload_n 0, 1) := by decide +kernel
theorem dX3_costOfRivals_33 : decode cX3_costOfRivals 33 = .ok (.getfield 25, 3) := by decide +kernel
theorem dX3_costOfRivals_36 : decode cX3_costOfRivals 36 = .ok (.aload 5, 2) := by decide +kernel
theorem dX3_costOfRivals_38 : decode cX3_costOfRivals 38 = .ok (.getfield 114, 3) := by decide +kernel
theorem dX3_costOfRivals_41 : decode cX3_costOfRivals 41 = .ok (.aaload, 1) := by decide +kernel
theorem dX3_costOfRivals_42 : decode cX3_costOfRivals 42 = .ok (.getfield 107, 3) := by decide +kernel
theorem dX3_costOfRivals_45 : decode cX3_costOfRivals 45 = .ok (.aload_n 0, 1) := by decide +kernel
theorem dX3_costOfRivals_46 : decode cX3_costOfRivals 46 = .ok (.getfield 25, 3) := by decide +kernel
theorem dX3_costOfRivals_49 : decode cX3_costOfRivals 49 = .ok (.iload_n 1, 1) := by decide +kernel
theorem dX3_costOfRivals_50 : decode cX3_costOfRivals 50 = .ok (.aaload, 1) := by decide +kernel
theorem dX3_costOfRivals_51 : decode cX3_costOfRivals 51 = .ok (.getfield 107, 3) := by decide +kernel
theorem dX3_costOfRivals_54 : decode cX3_costOfRivals 54 = .ok (.if_icmp .lt 28, 3) := by decide +kernel
theorem dX3_costOfRivals_57 : decode cX3_costOfRivals 57 = .ok (.iload_n 3, 1) := by decide +kernel
theorem dX3_costOfRivals_58 : decode cX3_costOfRivals 58 = .ok (.iload_n 2, 1) := by decide +kernel
theorem dX3_costOfRivals_59 : decode cX3_costOfRivals 59 = .ok (.i2l, 1) := by decide +kernel
theorem dX3_costOfRivals_60 : decode cX3_costOfRivals 60 = .ok (.aload 5, 2) := by decide +kernel
theorem dX3_costOfRivals_62 : decode cX3_costOfRivals 62 = .ok (.getfield 117, 3) := by decide +kernel
theorem dX3_costOfRivals_65 : decode cX3_costOfRivals 65 = .ok (.i2l, 1) := by decide +kernel
theorem dX3_costOfRivals_66 : decode cX3_costOfRivals 66 = .ok (.invokestatic 220, 3) := by decide +kernel
theorem dX3_costOfRivals_69 : decode cX3_costOfRivals 69 = .ok (.l2i, 1) := by decide +kernel
theorem dX3_costOfRivals_70 : decode cX3_costOfRivals 70 = .ok (.aload_n 0, 1) := by decide +kernel
theorem dX3_costOfRivals_71 : decode cX3_costOfRivals 71 = .ok (.aload 5, 2) := by decide +kernel
theorem dX3_costOfRivals_73 : decode cX3_costOfRivals 73 = .ok (.getfield 114, 3) := by decide +kernel
theorem dX3_costOfRivals_76 : decode cX3_costOfRivals 76 = .ok (.invokevirtual 175, 3) := by decide +kernel
theorem dX3_costOfRivals_79 : decode cX3_costOfRivals 79 = .ok (.imul, 1) := by decide +kernel
theorem dX3_costOfRivals_80 : decode cX3_costOfRivals 80 = .ok (.iadd, 1) := by decide +kernel
theorem dX3_costOfRivals_81 : decode cX3_costOfRivals 81 = .ok (.istore_n 3, 1) := by decide +kernel
theorem dX3_costOfRivals_82 : decode cX3_costOfRivals 82 = .ok (.iinc 4 1, 3) := by decide +kernel
theorem dX3_costOfRivals_85 : decode cX3_costOfRivals 85 = .ok (.goto (-80), 3) := by decide +kernel
theorem dX3_costOfRivals_88 : decode cX3_costOfRivals 88 = .ok (.iload_n 3, 1) := by decide +kernel
theorem dX3_costOfRivals_89 : decode cX3_costOfRivals 89 = .ok (.ireturn, 1) := by decide +kernel
theorem dX3_loadOfTimers_0 : decode cX3_loadOfTimers 0 = .ok (.lconst 0, 1) := by decide +kernel
theorem dX3_loadOfTimers_1 : decode cX3_loadOfTimers 1 = .ok (.lstore_n 1, 1) := by decide +kernel
theorem dX3_loadOfTimers_2 : decode cX3_loadOfTimers 2 = .ok (.lconst 1, 1) := by decide +kernel
theorem dX3_loadOfTimers_3 : decode cX3_loadOfTimers 3 = .ok (.lstore_n 3, 1) := by decide +kernel
theorem dX3_loadOfTimers_4 : decode cX3_loadOfTimers 4 = .ok (.iconst 0, 1) := by decide +kernel
theorem dX3_loadOfTimers_5 : decode cX3_loadOfTimers 5 = .ok (.istore 5, 2) := by decide +kernel
theorem dX3_loadOfTimers_7 : decode cX3_loadOfTimers 7 = .ok (.iload 5, 2) := by decide +kernel
theorem dX3_loadOfTimers_9 : decode cX3_loadOfTimers 9 = .ok (.aload_n 0, 1) := by decide +kernel
theorem dX3_loadOfTimers_10 : decode cX3_loadOfTimers 10 = .ok (.getfield 61, 3) := by decide +kernel
theorem dX3_loadOfTimers_13 : decode cX3_loadOfTimers 13 = .ok (.if_icmp .ge 55, 3) := by decide +kernel
theorem dX3_loadOfTimers_16 : decode cX3_loadOfTimers 16 = .ok (.lload_n 1, 1) := by decide +kernel
theorem dX3_loadOfTimers_17 : decode cX3_loadOfTimers 17 = .ok (.aload_n 0, 1) := by decide +kernel
theorem dX3_loadOfTimers_18 : decode cX3_loadOfTimers 18 = .ok (.getfield 32, 3) := by decide +kernel
theorem dX3_loadOfTimers_21 : decode cX3_loadOfTimers 21 = .ok (.iload 5, 2) := by decide +kernel
theorem dX3_loadOfTimers_23 : decode cX3_loadOfTimers 23 = .ok (.aaload, 1) := by decide +kernel
theorem dX3_loadOfTimers_24 : decode cX3_loadOfTimers 24 = .ok (.getfield 117, 3) := by decide +kernel
theorem dX3_loadOfTimers_27 : decode cX3_loadOfTimers 27 = .ok (.i2l, 1) := by decide +kernel
theorem dX3_loadOfTimers_28 : decode cX3_loadOfTimers 28 = .ok (.lmul, 1) := by decide +kernel
theorem dX3_loadOfTimers_29 : decode cX3_loadOfTimers 29 = .ok (.lload_n 3, 1) := by decide +kernel
theorem dX3_loadOfTimers_30 : decode cX3_loadOfTimers 30 = .ok (.aload_n 0, 1) := by decide +kernel
theorem dX3_loadOfTimers_31 : decode cX3_loadOfTimers 31 = .ok (.aload_n 0, 1) := by decide +kernel
theorem dX3_loadOfTimers_32 : decode cX3_loadOfTimers 32 = .ok (.getfield 32, 3) := by decide +kernel
theorem dX3_loadOfTimers_35 : decode cX3_loadOfTimers 35 = .ok (.iload 5, 2) := by decide +kernel
theorem dX3_loadOfTimers_37 : decode cX3_loadOfTimers 37 = .ok (.aaload, 1) := by decide +kernel
theorem dX3_loadOfTimers_38 : decode cX3_loadOfTimers 38 = .ok (.getfield 114, 3) := by decide +kernel
theorem dX3_loadOfTimers_41 : decode cX3_loadOfTimers 41 = .ok (.invokevirtual 175, 3) := by decide +kernel
theorem dX3_loadOfTimers_44 : decode cX3_loadOfTimers 44 = .ok (.i2l, 1) := by decide +kernel
theorem dX3_loadOfTimers_45 : decode cX3_loadOfTimers 45 = .ok (.lmul, 1) := by decide +kernel
theorem dX3_loadOfTimers_46 : decode cX3_loadOfTimers 46 = .ok (.ladd, 1) := by decide +kernel
theorem dX3_loadOfTimers_47 : decode cX3_loadOfTimers 47 = .ok (.lstore_n 1, 1) := by decide +kernel
theorem dX3_loadOfTimers_48 : decode cX3_loadOfTimers 48 = .ok (.lload_n 3, 1) := by decide +kernel
theorem dX3_loadOfTimers_49 : decode cX3_loadOfTimers 49 = .ok (.aload_n 0, 1) := by decide +kernel
theorem dX3_loadOfTimers_50 : decode cX3_loadOfTimers 50 = .ok (.getfield 32, 3) := by decide +kernel
theorem dX3_loadOfTimers_53 : decode cX3_loadOfTimers 53 = .ok (.iload 5, 2) := by decide +kernel
theorem dX3_loadOfTimers_55 : decode cX3_loadOfTimers 55 = .ok (.aaload, 1) := by decide +kernel
theorem dX3_loadOfTimers_56 : decode cX3_loadOfTimers 56 = .ok (.getfield 117, 3) := by decide +kernel
theorem dX3_loadOfTimers_59 : decode cX3_loadOfTimers 59 = .ok (.i2l, 1) := by decide +kernel
theorem dX3_loadOfTimers_60 : decode cX3_loadOfTimers 60 = .ok (.lmul, 1) := by decide +kernel
theorem dX3_loadOfTimers_61 : decode cX3_loadOfTimers 61 = .ok (.lstore_n 3, 1) := by decide +kernel
theorem dX3_loadOfTimers_62 : decode cX3_loadOfTimers 62 = .ok (.iinc 5 1, 3) := by decide +kernel
theorem dX3_loadOfTimers_65 : decode cX3_loadOfTimers 65 = .ok (.goto (-58), 3) := by decide +kernel
theorem dX3_loadOfTimers_68 : decode cX3_loadOfTimers 68 = .ok (.ldc2_w 224, 3) := by decide +kernel
theorem dX3_loadOfTimers_71 : decode cX3_loadOfTimers 71 = .ok (.lload_n 1, 1) := by decide +kernel
theorem dX3_loadOfTimers_72 : decode cX3_loadOfTimers 72 = .ok (.lmul, 1) := by decide +kernel
theorem dX3_loadOfTimers_73 : decode cX3_loadOfTimers 73 = .ok (.lload_n 3, 1) := by decide +kernel
theorem dX3_loadOfTimers_74 : decode cX3_loadOfTimers 74 = .ok (.invokestatic 220, 3) := by decide +kernel
theorem dX3_loadOfTimers_77 : decode cX3_loadOfTimers 77 = .ok (.l2i, 1) := by decide +kernel
theorem dX3_loadOfTimers_78 : decode cX3_loadOfTimers 78 = .ok (.ireturn, 1) := by decide +kernel
theorem dX4_init_0 : decode cX4_init 0 = .ok (.aload_n 0, 1) := by decide +kernel
theorem dX4_init_1 : decode cX4_init 1 = .ok (.invokespecial 3, 3) := by decide +kernel
theorem dX4_init_4 : decode cX4_init 4 = .ok (.return_, 1) := by decide +kernel
theorem dX4_copyFrom_0 : decode cX4_copyFrom 0 = .ok (.aload_n 0, 1) := by decide +kernel
theorem dX4_copyFrom_1 : decode cX4_copyFrom 1 = .ok (.aload_n 1, 1) := by decide +kernel
theorem dX4_copyFrom_2 : decode cX4_copyFrom 2 = .ok (.getfield 9, 3) := by decide +kernel
theorem dX4_copyFrom_5 : decode cX4_copyFrom 5 = .ok (.putfield 9, 3) := by decide +kernel
theorem dX4_copyFrom_8 : decode cX4_copyFrom 8 = .ok (.aload_n 0, 1) := by decide +kernel
theorem dX4_copyFrom_9 : decode cX4_copyFrom 9 = .ok (.aload_n 1, 1) := by decide +kernel
theorem dX4_copyFrom_10 : decode cX4_copyFrom 10 = .ok (.getfield 15, 3) := by decide +kernel
theorem dX4_copyFrom_13 : decode cX4_copyFrom 13 = .ok (.putfield 15, 3) := by decide +kernel
theorem dX4_copyFrom_16 : decode cX4_copyFrom 16 = .ok (.aload_n 0, 1) := by decide +kernel
theorem dX4_copyFrom_17 : decode cX4_copyFrom 17 = .ok (.aload_n 1, 1) := by decide +kernel
theorem dX4_copyFrom_18 : decode cX4_copyFrom 18 = .ok (.getfield 18, 3) := by decide +kernel
theorem dX4_copyFrom_21 : decode cX4_copyFrom 21 = .ok (.putfield 18, 3) := by decide +kernel
theorem dX4_copyFrom_24 : decode cX4_copyFrom 24 = .ok (.aload_n 0, 1) := by decide +kernel
theorem dX4_copyFrom_25 : decode cX4_copyFrom 25 = .ok (.aload_n 1, 1) := by decide +kernel
theorem dX4_copyFrom_26 : decode cX4_copyFrom 26 = .ok (.getfield 21, 3) := by decide +kernel
theorem dX4_copyFrom_29 : decode cX4_copyFrom 29 = .ok (.putfield 21, 3) := by decide +kernel
theorem dX4_copyFrom_32 : decode cX4_copyFrom 32 = .ok (.return_, 1) := by decide +kernel
theorem dX4_number_0 : decode cX4_number 0 = .ok (.iload_n 1, 1) := by decide +kernel
theorem dX4_number_1 : decode cX4_number 1 = .ok (.tableswitch 51 0 3 #[31, 36, 41, 46], 31) := by decide +kernel
theorem dX4_number_32 : decode cX4_number 32 = .ok (.aload_n 0, 1) := by decide +kernel
theorem dX4_number_33 : decode cX4_number 33 = .ok (.getfield 9, 3) := by decide +kernel
theorem dX4_number_36 : decode cX4_number 36 = .ok (.ireturn, 1) := by decide +kernel
theorem dX4_number_37 : decode cX4_number 37 = .ok (.aload_n 0, 1) := by decide +kernel
theorem dX4_number_38 : decode cX4_number 38 = .ok (.getfield 15, 3) := by decide +kernel
theorem dX4_number_41 : decode cX4_number 41 = .ok (.ireturn, 1) := by decide +kernel
theorem dX4_number_42 : decode cX4_number 42 = .ok (.aload_n 0, 1) := by decide +kernel
theorem dX4_number_43 : decode cX4_number 43 = .ok (.getfield 18, 3) := by decide +kernel
theorem dX4_number_46 : decode cX4_number 46 = .ok (.ireturn, 1) := by decide +kernel
theorem dX4_number_47 : decode cX4_number 47 = .ok (.aload_n 0, 1) := by decide +kernel
theorem dX4_number_48 : decode cX4_number 48 = .ok (.getfield 21, 3) := by decide +kernel
theorem dX4_number_51 : decode cX4_number 51 = .ok (.ireturn, 1) := by decide +kernel
theorem dX4_number_52 : decode cX4_number 52 = .ok (.bipush (-2), 2) := by decide +kernel
theorem dX4_number_54 : decode cX4_number 54 = .ok (.ireturn, 1) := by decide +kernel
theorem dX5_init_0 : decode cX5_init 0 = .ok (.aload_n 0, 1) := by decide +kernel
theorem dX5_init_1 : decode cX5_init 1 = .ok (.invokespecial 3, 3) := by decide +kernel
theorem dX5_init_4 : decode cX5_init 4 = .ok (.return_, 1) := by decide +kernel
theorem dX5_copyFrom_0 : decode cX5_copyFrom 0 = .ok (.aload_n 0, 1) := by decide +kernel
theorem dX5_copyFrom_1 : decode cX5_copyFrom 1 = .ok (.aload_n 1, 1) := by decide +kernel
theorem dX5_copyFrom_2 : decode cX5_copyFrom 2 = .ok (.getfield 9, 3) := by decide +kernel
theorem dX5_copyFrom_5 : decode cX5_copyFrom 5 = .ok (.putfield 9, 3) := by decide +kernel
theorem dX5_copyFrom_8 : decode cX5_copyFrom 8 = .ok (.aload_n 0, 1) := by decide +kernel
theorem dX5_copyFrom_9 : decode cX5_copyFrom 9 = .ok (.aload_n 1, 1) := by decide +kernel
theorem dX5_copyFrom_10 : decode cX5_copyFrom 10 = .ok (.getfield 15, 3) := by decide +kernel
theorem dX5_copyFrom_13 : decode cX5_copyFrom 13 = .ok (.putfield 15, 3) := by decide +kernel
theorem dX5_copyFrom_16 : decode cX5_copyFrom 16 = .ok (.aload_n 0, 1) := by decide +kernel
theorem dX5_copyFrom_17 : decode cX5_copyFrom 17 = .ok (.aload_n 1, 1) := by decide +kernel
theorem dX5_copyFrom_18 : decode cX5_copyFrom 18 = .ok (.getfield 18, 3) := by decide +kernel
theorem dX5_copyFrom_21 : decode cX5_copyFrom 21 = .ok (.putfield 18, 3) := by decide +kernel
theorem dX5_copyFrom_24 : decode cX5_copyFrom 24 = .ok (.return_, 1) := by decide +kernel
theorem dX5_number_0 : decode cX5_number 0 = .ok (.iload_n 1, 1) := by decide +kernel
theorem dX5_number_1 : decode cX5_number 1 = .ok (.tableswitch 42 0 2 #[27, 32, 37], 27) := by decide +kernel
theorem dX5_number_28 : decode cX5_number 28 = .ok (.aload_n 0, 1) := by decide +kernel
theorem dX5_number_29 : decode cX5_number 29 = .ok (.getfield 9, 3) := by decide +kernel
theorem dX5_number_32 : decode cX5_number 32 = .ok (.ireturn, 1) := by decide +kernel
theorem dX5_number_33 : decode cX5_number 33 = .ok (.aload_n 0, 1) := by decide +kernel
theorem dX5_number_34 : decode cX5_number 34 = .ok (.getfield 15, 3) := by decide +kernel
theorem dX5_number_37 : decode cX5_number 37 = .ok (.ireturn, 1) := by decide +kernel
theorem dX5_number_38 : decode cX5_number 38 = .ok (.aload_n 0, 1) := by decide +kernel
theorem dX5_number_39 : decode cX5_number 39 = .ok (.getfield 18, 3) := by decide +kernel
theorem dX5_number_42 : decode cX5_number 42 = .ok (.ireturn, 1) := by decide +kernel
theorem dX5_number_43 : decode cX5_number 43 = .ok (.bipush (-2), 2) := by decide +kernel
theorem dX5_number_45 : decode cX5_number 45 = .ok (.ireturn, 1) := by decide +kernel
theorem dX6_init_0 : decode cX6_init 0 = .ok (.aload_n 0, 1) := by decide +kernel
theorem dX6_init_1 : decode cX6_init 1 = .ok (.invokespecial 1, 3) := by decide +kernel
theorem dX6_init_4 : decode cX6_init 4 = .ok (.aload_n 0, 1) := by decide +kernel
theorem dX6_init_5 : decode cX6_init 5 = .ok (.new 7, 3) := by decide +kernel
theorem dX6_init_8 : decode cX6_init 8 = .ok (.dup, 1) := by decide +kernel
theorem dX6_init_9 : decode cX6_init 9 = .ok (.invokespecial 9, 3) := by decide +kernel
theorem dX6_init_12 : decode cX6_init 12 = .ok (.putfield 10, 3) := by decide +kernel
theorem dX6_init_15 : decode cX6_init 15 = .ok (.aload_n 0, 1) := by decide +kernel
theorem dX6_init_16 : decode cX6_init 16 = .ok (.new 7, 3) := by decide +kernel
theorem dX6_init_19 : decode cX6_init 19 = .ok (.dup, 1) := by decide +kernel
theorem dX6_init_20 : decode cX6_init 20 = .ok (.invokespecial 9, 3) := by decide +kernel
theorem dX6_init_23 : decode cX6_init 23 = .ok (.putfield 16, 3) := by decide +kernel
theorem dX6_init_26 : decode cX6_init 26 = .ok (.aload_n 0, 1) := by decide +kernel
theorem dX6_init_27 : decode cX6_init 27 = .ok (.iconst 2, 1) := by decide +kernel
theorem dX6_init_28 : decode cX6_init 28 = .ok (.anewarray 7, 3) := by decide +kernel
theorem dX6_init_31 : decode cX6_init 31 = .ok (.putfield 19, 3) := by decide +kernel
theorem dX6_init_34 : decode cX6_init 34 = .ok (.iconst 0, 1) := by decide +kernel
theorem dX6_init_35 : decode cX6_init 35 = .ok (.istore_n 1, 1) := by decide +kernel
theorem dX6_init_36 : decode cX6_init 36 = .ok (.iload_n 1, 1) := by decide +kernel
theorem dX6_init_37 : decode cX6_init 37 = .ok (.iconst 2, 1) := by decide +kernel
theorem dX6_init_38 : decode cX6_init 38 = .ok (.if_icmp .ge 22, 3) := by decide +kernel
theorem dX6_init_41 : decode cX6_init 41 = .ok (.aload_n 0, 1) := by decide +kernel
theorem dX6_init_42 : decode cX6_init 42 = .ok (.getfield 19, 3) := by decide +kernel
theorem dX6_init_45 : decode cX6_init 45 = .ok (.iload_n 1, 1) := by decide +kernel
theorem dX6_init_46 : decode cX6_init 46 = .ok (.new 7, 3) := by decide +kernel
theorem dX6_init_49 : decode cX6_init 49 = .ok (.dup, 1) := by decide +kernel
theorem dX6_init_50 : decode cX6_init 50 = .ok (.invokespecial 9, 3) := by decide +kernel
theorem dX6_init_53 : decode cX6_init 53 = .ok (.aastore, 1) := by decide +kernel
theorem dX6_init_54 : decode cX6_init 54 = .ok (.iinc 1 1, 3) := by decide +kernel
theorem dX6_init_57 : decode cX6_init 57 = .ok (.goto (-21), 3) := by decide +kernel
theorem dX6_init_60 : decode cX6_init 60 = .ok (.aload_n 0, 1) := by decide +kernel
theorem dX6_init_61 : decode cX6_init 61 = .ok (.iconst 2, 1) := by decide +kernel
theorem dX6_init_62 : decode cX6_init 62 = .ok (.newarray .boolean, 2) := by decide +kernel
theorem dX6_init_64 : decode cX6_init 64 = .ok (.putfield 23, 3) := by decide +kernel
theorem dX6_init_67 : decode cX6_init 67 = .ok (.aload_n 0, 1) := by decide +kernel
theorem dX6_init_68 : decode cX6_init 68 = .ok (.new 27, 3) := by decide +kernel
theorem dX6_init_71 : decode cX6_init 71 = .ok (.dup, 1) := by decide +kernel
theorem dX6_init_72 : decode cX6_init 72 = .ok (.invokespecial 29, 3) := by decide +kernel
theorem dX6_init_75 : decode cX6_init 75 = .ok (.putfield 30, 3) := by decide +kernel
theorem dX6_init_78 : decode cX6_init 78 = .ok (.aload_n 0, 1) := by decide +kernel
theorem dX6_init_79 : decode cX6_init 79 = .ok (.new 34, 3) := by decide +kernel
theorem dX6_init_82 : decode cX6_init 82 = .ok (.dup, 1) := by decide +kernel
theorem dX6_init_83 : decode cX6_init 83 = .ok (.invokespecial 36, 3) := by decide +kernel
theorem dX6_init_86 : decode cX6_init 86 = .ok (.putfield 37, 3) := by decide +kernel
theorem dX6_init_89 : decode cX6_init 89 = .ok (.return_, 1) := by decide +kernel
theorem dX6_set_0 : decode cX6_set 0 = .ok (.aload_n 0, 1) := by decide +kernel
theorem dX6_set_1 : decode cX6_set 1 = .ok (.getfield 30, 3) := by decide +kernel
theorem dX6_set_4 : decode cX6_set 4 = .ok (.aload_n 0, 1) := by decide +kernel
theorem dX6_set_5 : decode cX6_set 5 = .ok (.getfield 10, 3) := by decide +kernel
theorem dX6_set_8 : decode cX6_set 8 = .ok (.invokevirtual 41, 3) := by decide +kernel
theorem dX6_set_11 : decode cX6_set 11 = .ok (.aload_n 0, 1) := by decide +kernel
theorem dX6_set_12 : decode cX6_set 12 = .ok (.getfield 30, 3) := by decide +kernel
theorem dX6_set_15 : decode cX6_set 15 = .ok (.aload_n 0, 1) := by decide +kernel
theorem dX6_set_16 : decode cX6_set 16 = .ok (.getfield 10, 3) := by decide +kernel
theorem dX6_set_19 : decode cX6_set 19 = .ok (.iload_n 1, 1) := by decide +kernel
theorem dX6_set_20 : decode cX6_set 20 = .ok (.iload_n 2, 1) := by decide +kernel
theorem dX6_set_21 : decode cX6_set 21 = .ok (.invokevirtual 45, 3) := by decide +kernel
theorem dX6_set_24 : decode cX6_set 24 = .ok (.invokevirtual 49, 3) := by decide +kernel
theorem dX6_set_27 : decode cX6_set 27 = .ok (.ireturn, 1) := by decide +kernel
theorem dX6_line_0 : decode cX6_line 0 = .ok (.aload_n 0, 1) := by decide +kernel
theorem dX6_line_1 : decode cX6_line 1 = .ok (.getfield 30, 3) := by decide +kernel
theorem dX6_line_4 : decode cX6_line 4 = .ok (.aload_n 0, 1) := by decide +kernel
theorem dX6_line_5 : decode cX6_line 5 = .ok (.getfield 10, 3) := by decide +kernel
theorem dX6_line_8 : decode cX6_line 8 = .ok (.invokevirtual 41, 3) := by decide +kernel
theorem dX6_line_11 : decode cX6_line 11 = .ok (.aload_n 0, 1) := by decide +kernel
theorem dX6_line_12 : decode cX6_line 12 = .ok (.getfield 30, 3) := by decide +kernel
theorem dX6_line_15 : decode cX6_line 15 = .ok (.aload_n 0, 1) := by decide +kernel
theorem dX6_line_16 : decode cX6_line 16 = .ok (.getfield 10, 3) := by decide +kernel
theorem dX6_line_19 : decode cX6_line 19 = .ok (.iload_n 1, 1) := by decide +kernel
theorem dX6_line_20 : decode cX6_line 20 = .ok (.iload_n 2, 1) := by decide +kernel
theorem dX6_line_21 : decode cX6_line 21 = .ok (.iload_n 3, 1) := by decide +kernel
theorem dX6_line_22 : decode cX6_line 22 = .ok (.iload 4, 2) := by decide +kernel
theorem dX6_line_24 : decode cX6_line 24 = .ok (.invokevirtual 53, 3) := by decide +kernel
theorem dX6_line_27 : decode cX6_line 27 = .ok (.invokevirtual 49, 3) := by decide +kernel
theorem dX6_line_30 : decode cX6_line 30 = .ok (.ireturn, 1) := by decide +kernel
theorem dX6_timer_0 : decode cX6_timer 0 = .ok (.aload_n 0, 1) := by decide +kernel
theorem dX6_timer_1 : decode cX6_timer 1 = .ok (.getfield 30, 3) := by decide +kernel
theorem dX6_timer_4 : decode cX6_timer 4 = .ok (.aload_n 0, 1) := by decide +kernel
theorem dX6_timer_5 : decode cX6_timer 5 = .ok (.getfield 10, 3) := by decide +kernel
theorem dX6_timer_8 : decode cX6_timer 8 = .ok (.invokevirtual 41, 3) := by decide +kernel
theorem dX6_timer_11 : decode cX6_timer 11 = .ok (.aload_n 0, 1) := by decide +kernel
theorem dX6_timer_12 : decode cX6_timer 12 = .ok (.getfield 30, 3) := by decide +kernel
theorem dX6_timer_15 : decode cX6_timer 15 = .ok (.aload_n 0, 1) := by decide +kernel
theorem dX6_timer_16 : decode cX6_timer 16 = .ok (.getfield 10, 3) := by decide +kernel
theorem dX6_timer_19 : decode cX6_timer 19 = .ok (.iload_n 1, 1) := by decide +kernel
theorem dX6_timer_20 : decode cX6_timer 20 = .ok (.iload_n 2, 1) := by decide +kernel
theorem dX6_timer_21 : decode cX6_timer 21 = .ok (.iload_n 3, 1) := by decide +kernel
theorem dX6_timer_22 : decode cX6_timer 22 = .ok (.invokevirtual 57, 3) := by decide +kernel
theorem dX6_timer_25 : decode cX6_timer 25 = .ok (.invokevirtual 49, 3) := by decide +kernel
theorem dX6_timer_28 : decode cX6_timer 28 = .ok (.ireturn, 1) := by decide +kernel
theorem dX6_stop_0 : decode cX6_stop 0 = .ok (.aload_n 0, 1) := by decide +kernel
theorem dX6_stop_1 : decode cX6_stop 1 = .ok (.getfield 30, 3) := by decide +kernel
theorem dX6_stop_4 : decode cX6_stop 4 = .ok (.aload_n 0, 1) := by decide +kernel
theorem dX6_stop_5 : decode cX6_stop 5 = .ok (.getfield 10, 3) := by decide +kernel
theorem dX6_stop_8 : decode cX6_stop 8 = .ok (.invokevirtual 41, 3) := by decide +kernel
theorem dX6_stop_11 : decode cX6_stop 11 = .ok (.aload_n 0, 1) := by decide +kernel
theorem dX6_stop_12 : decode cX6_stop 12 = .ok (.getfield 30, 3) := by decide +kernel
theorem dX6_stop_15 : decode cX6_stop 15 = .ok (.aload_n 0, 1) := by decide +kernel
theorem dX6_stop_16 : decode cX6_stop 16 = .ok (.getfield 10, 3) := by decide +kernel
theorem dX6_stop_19 : decode cX6_stop 19 = .ok (.iload_n 1, 1) := by decide +kernel
theorem dX6_stop_20 : decode cX6_stop 20 = .ok (.invokevirtual 61, 3) := by decide +kernel
theorem dX6_stop_23 : decode cX6_stop 23 = .ok (.invokevirtual 49, 3) := by decide +kernel
theorem dX6_stop_26 : decode cX6_stop 26 = .ok (.ireturn, 1) := by decide +kernel
theorem dX6_raise_0 : decode cX6_raise 0 = .ok (.aload_n 0, 1) := by decide +kernel
theorem dX6_raise_1 : decode cX6_raise 1 = .ok (.getfield 30, 3) := by decide +kernel
theorem dX6_raise_4 : decode cX6_raise 4 = .ok (.aload_n 0, 1) := by decide +kernel
theorem dX6_raise_5 : decode cX6_raise 5 = .ok (.getfield 10, 3) := by decide +kernel
theorem dX6_raise_8 : decode cX6_raise 8 = .ok (.invokevirtual 41, 3) := by decide +kernel
theorem dX6_raise_11 : decode cX6_raise 11 = .ok (.aload_n 0, 1) := by decide +kernel
theorem dX6_raise_12 : decode cX6_raise 12 = .ok (.getfield 30, 3) := by decide +kernel
theorem dX6_raise_15 : decode cX6_raise 15 = .ok (.aload_n 0, 1) := by decide +kernel
theorem dX6_raise_16 : decode cX6_raise 16 = .ok (.getfield 10, 3) := by decide +kernel
theorem dX6_raise_19 : decode cX6_raise 19 = .ok (.iload_n 1, 1) := by decide +kernel
theorem dX6_raise_20 : decode cX6_raise 20 = .ok (.invokevirtual 64, 3) := by decide +kernel
theorem dX6_raise_23 : decode cX6_raise 23 = .ok (.invokevirtual 49, 3) := by decide +kernel
theorem dX6_raise_26 : decode cX6_raise 26 = .ok (.ireturn, 1) := by decide +kernel
theorem dX6_hold_0 : decode cX6_hold 0 = .ok (.aload_n 0, 1) := by decide +kernel
theorem dX6_hold_1 : decode cX6_hold 1 = .ok (.getfield 30, 3) := by decide +kernel
theorem dX6_hold_4 : decode cX6_hold 4 = .ok (.aload_n 0, 1) := by decide +kernel
theorem dX6_hold_5 : decode cX6_hold 5 = .ok (.getfield 10, 3) := by decide +kernel
theorem dX6_hold_8 : decode cX6_hold 8 = .ok (.invokevirtual 41, 3) := by decide +kernel
theorem dX6_hold_11 : decode cX6_hold 11 = .ok (.aload_n 0, 1) := by decide +kernel
theorem dX6_hold_12 : decode cX6_hold 12 = .ok (.getfield 30, 3) := by decide +kernel
theorem dX6_hold_15 : decode cX6_hold 15 = .ok (.aload_n 0, 1) := by decide +kernel
theorem dX6_hold_16 : decode cX6_hold 16 = .ok (.getfield 10, 3) := by decide +kernel
theorem dX6_hold_19 : decode cX6_hold 19 = .ok (.iload_n 1, 1) := by decide +kernel
theorem dX6_hold_20 : decode cX6_hold 20 = .ok (.iload_n 2, 1) := by decide +kernel
theorem dX6_hold_21 : decode cX6_hold 21 = .ok (.iload_n 3, 1) := by decide +kernel
theorem dX6_hold_22 : decode cX6_hold 22 = .ok (.invokevirtual 67, 3) := by decide +kernel
theorem dX6_hold_25 : decode cX6_hold 25 = .ok (.invokevirtual 49, 3) := by decide +kernel
theorem dX6_hold_28 : decode cX6_hold 28 = .ok (.ireturn, 1) := by decide +kernel
theorem dX6_mask_0 : decode cX6_mask 0 = .ok (.aload_n 0, 1) := by decide +kernel
theorem dX6_mask_1 : decode cX6_mask 1 = .ok (.getfield 30, 3) := by decide +kernel
theorem dX6_mask_4 : decode cX6_mask 4 = .ok (.aload_n 0, 1) := by decide +kernel
theorem dX6_mask_5 : decode cX6_mask 5 = .ok (.getfield 10, 3) := by decide +kernel
theorem dX6_mask_8 : decode cX6_mask 8 = .ok (.invokevirtual 41, 3) := by decide +kernel
theorem dX6_mask_11 : decode cX6_mask 11 = .ok (.aload_n 0, 1) := by decide +kernel
theorem dX6_mask_12 : decode cX6_mask 12 = .ok (.getfield 30, 3) := by decide +kernel
theorem dX6_mask_15 : decode cX6_mask 15 = .ok (.aload_n 0, 1) := by decide +kernel
theorem dX6_mask_16 : decode cX6_mask 16 = .ok (.getfield 10, 3) := by decide +kernel
theorem dX6_mask_19 : decode cX6_mask 19 = .ok (.iload_n 1, 1) := by decide +kernel
theorem dX6_mask_20 : decode cX6_mask 20 = .ok (.iload_n 2, 1) := by decide +kernel
theorem dX6_mask_21 : decode cX6_mask 21 = .ok (.invokevirtual 70, 3) := by decide +kernel
theorem dX6_mask_24 : decode cX6_mask 24 = .ok (.invokevirtual 49, 3) := by decide +kernel
theorem dX6_mask_27 : decode cX6_mask 27 = .ok (.ireturn, 1) := by decide +kernel
theorem dX6_change_0 : decode cX6_change 0 = .ok (.aload_n 0, 1) := by decide +kernel
theorem dX6_change_1 : decode cX6_change 1 = .ok (.getfield 30, 3) := by decide +kernel
theorem dX6_change_4 : decode cX6_change 4 = .ok (.aload_n 0, 1) := by decide +kernel
theorem dX6_change_5 : decode cX6_change 5 = .ok (.getfield 10, 3) := by decide +kernel
theorem dX6_change_8 : decode cX6_change 8 = .ok (.invokevirtual 41, 3) := by decide +kernel
theorem dX6_change_11 : decode cX6_change 11 = .ok (.aload_n 0, 1) := by decide +kernel
theorem dX6_change_12 : decode cX6_change 12 = .ok (.getfield 30, 3) := by decide +kernel
theorem dX6_change_15 : decode cX6_change 15 = .ok (.aload_n 0, 1) := by decide +kernel
theorem dX6_change_16 : decode cX6_change 16 = .ok (.getfield 10, 3) := by decide +kernel
theorem dX6_change_19 : decode cX6_change 19 = .ok (.iload_n 1, 1) := by decide +kernel
theorem dX6_change_20 : decode cX6_change 20 = .ok (.iload_n 2, 1) := by decide +kernel
theorem dX6_change_21 : decode cX6_change 21 = .ok (.iload_n 3, 1) := by decide +kernel
theorem dX6_change_22 : decode cX6_change 22 = .ok (.iload 4, 2) := by decide +kernel
theorem dX6_change_24 : decode cX6_change 24 = .ok (.invokevirtual 73, 3) := by decide +kernel
theorem dX6_change_27 : decode cX6_change 27 = .ok (.invokevirtual 49, 3) := by decide +kernel
theorem dX6_change_30 : decode cX6_change 30 = .ok (.ireturn, 1) := by decide +kernel
theorem dX6_ticks_0 : decode cX6_ticks 0 = .ok (.aload_n 0, 1) := by decide +kernel
theorem dX6_ticks_1 : decode cX6_ticks 1 = .ok (.getfield 30, 3) := by decide +kernel
theorem dX6_ticks_4 : decode cX6_ticks 4 = .ok (.aload_n 0, 1) := by decide +kernel
theorem dX6_ticks_5 : decode cX6_ticks 5 = .ok (.getfield 10, 3) := by decide +kernel
theorem dX6_ticks_8 : decode cX6_ticks 8 = .ok (.invokevirtual 41, 3) := by decide +kernel
theorem dX6_ticks_11 : decode cX6_ticks 11 = .ok (.aload_n 0, 1) := by decide +kernel
theorem dX6_ticks_12 : decode cX6_ticks 12 = .ok (.getfield 30, 3) := by decide +kernel
theorem dX6_ticks_15 : decode cX6_ticks 15 = .ok (.aload_n 0, 1) := by decide +kernel
theorem dX6_ticks_16 : decode cX6_ticks 16 = .ok (.getfield 10, 3) := by decide +kernel
theorem dX6_ticks_19 : decode cX6_ticks 19 = .ok (.iload_n 1, 1) := by decide +kernel
theorem dX6_ticks_20 : decode cX6_ticks 20 = .ok (.invokevirtual 76, 3) := by decide +kernel
theorem dX6_ticks_23 : decode cX6_ticks 23 = .ok (.invokevirtual 49, 3) := by decide +kernel
theorem dX6_ticks_26 : decode cX6_ticks 26 = .ok (.ireturn, 1) := by decide +kernel
theorem dX6_ofLine_0 : decode cX6_ofLine 0 = .ok (.aload_n 0, 1) := by decide +kernel
theorem dX6_ofLine_1 : decode cX6_ofLine 1 = .ok (.getfield 10, 3) := by decide +kernel
theorem dX6_ofLine_4 : decode cX6_ofLine 4 = .ok (.iload_n 1, 1) := by decide +kernel
theorem dX6_ofLine_5 : decode cX6_ofLine 5 = .ok (.iload_n 2, 1) := by decide +kernel
theorem dX6_ofLine_6 : decode cX6_ofLine 6 = .ok (.invokevirtual 79, 3) := by decide +kernel
theorem dX6_ofLine_9 : decode cX6_ofLine 9 = .ok (.ireturn, 1) := by decide +kernel
theorem dX6_ofNest_0 : decode cX6_ofNest 0 = .ok (.aload_n 0, 1) := by decide +kernel
theorem dX6_ofNest_1 : decode cX6_ofNest 1 = .ok (.getfield 10, 3) := by decide +kernel
theorem dX6_ofNest_4 : decode cX6_ofNest 4 = .ok (.iload_n 1, 1) := by decide +kernel
theorem dX6_ofNest_5 : decode cX6_ofNest 5 = .ok (.iload_n 2, 1) := by decide +kernel
theorem dX6_ofNest_6 : decode cX6_ofNest 6 = .ok (.invokevirtual 82, 3) := by decide +kernel
theorem dX6_ofNest_9 : decode cX6_ofNest 9 = .ok (.ireturn, 1) := by decide +kernel
theorem dX6_ofTimer_0 : decode cX6_ofTimer 0 = .ok (.aload_n 0, 1) := by decide +kernel
theorem dX6_ofTimer_1 : decode cX6_ofTimer 1 = .ok (.getfield 10, 3) := by decide +kernel
theorem dX6_ofTimer_4 : decode cX6_ofTimer 4 = .ok (.iload_n 1, 1) := by decide +kernel
theorem dX6_ofTimer_5 : decode cX6_ofTimer 5 = .ok (.iload_n 2, 1) := by decide +kernel
theorem dX6_ofTimer_6 : decode cX6_ofTimer 6 = .ok (.invokevirtual 85, 3) := by decide +kernel
theorem dX6_ofTimer_9 : decode cX6_ofTimer 9 = .ok (.ireturn, 1) := by decide +kernel
theorem dX6_count_0 : decode cX6_count 0 = .ok (.iload_n 1, 1) := by decide +kernel
theorem dX6_count_1 : decode cX6_count 1 = .ok (.lookupswitch 43 #[(10, 27), (11, 35)], 27) := by decide +kernel
theorem dX6_count_28 : decode cX6_count 28 = .ok (.aload_n 0, 1) := by decide +kernel
theorem dX6_count_29 : decode cX6_count 29 = .ok (.getfield 37, 3) := by decide +kernel
theorem dX6_count_32 : decode cX6_count 32 = .ok (.getfield 88, 3) := by decide +kernel
theorem dX6_count_35 : decode cX6_count 35 = .ok (.ireturn, 1) := by decide +kernel
theorem dX6_count_36 : decode cX6_count 36 = .ok (.aload_n 0, 1) := by decide +kernel
theorem dX6_count_37 : decode cX6_count 37 = .ok (.getfield 30, 3) := by decide +kernel
theorem dX6_count_40 : decode cX6_count 40 = .ok (.getfield 92, 3) := by decide +kernel
theorem dX6_count_43 : decode cX6_count 43 = .ok (.ireturn, 1) := by decide +kernel
theorem dX6_count_44 : decode cX6_count 44 = .ok (.aload_n 0, 1) := by decide +kernel
theorem dX6_count_45 : decode cX6_count 45 = .ok (.getfield 10, 3) := by decide +kernel
theorem dX6_count_48 : decode cX6_count 48 = .ok (.iload_n 1, 1) := by decide +kernel
theorem dX6_count_49 : decode cX6_count 49 = .ok (.invokevirtual 95, 3) := by decide +kernel
theorem dX6_count_52 : decode cX6_count 52 = .ok (.ireturn, 1) := by decide +kernel
theorem dX6_beginsIn_0 : decode cX6_beginsIn 0 = .ok (.aload_n 0, 1) := by decide +kernel
theorem dX6_beginsIn_1 : decode cX6_beginsIn 1 = .ok (.getfield 10, 3) := by decide +kernel
theorem dX6_beginsIn_4 : decode cX6_beginsIn 4 = .ok (.iload_n 1, 1) := by decide +kernel
theorem dX6_beginsIn_5 : decode cX6_beginsIn 5 = .ok (.invokevirtual 98, 3) := by decide +kernel
theorem dX6_beginsIn_8 : decode cX6_beginsIn 8 = .ok (.ifCond .ne 5, 3) := by decide +kernel
theorem dX6_beginsIn_11 : decode cX6_beginsIn 11 = .ok (.iconst (-1), 1) := by decide +kernel
theorem dX6_beginsIn_12 : decode cX6_beginsIn 12 = .ok (.ireturn, 1) := by decide +kernel
theorem dX6_beginsIn_13 : decode cX6_beginsIn 13 = .ok (.aload_n 0, 1) := by decide +kernel
theorem dX6_beginsIn_14 : decode cX6_beginsIn 14 = .ok (.getfield 16, 3) := by decide +kernel
theorem dX6_beginsIn_17 : decode cX6_beginsIn 17 = .ok (.aload_n 0, 1) := by decide +kernel
theorem dX6_beginsIn_18 : decode cX6_beginsIn 18 = .ok (.getfield 10, 3) := by decide +kernel
theorem dX6_beginsIn_21 : decode cX6_beginsIn 21 = .ok (.invokevirtual 102, 3) := by decide +kernel
theorem dX6_beginsIn_24 : decode cX6_beginsIn 24 = .ok (.aload_n 0, 1) := by decide +kernel
theorem dX6_beginsIn_25 : decode cX6_beginsIn 25 = .ok (.getfield 16, 3) := by decide +kernel
theorem dX6_beginsIn_28 : decode cX6_beginsIn 28 = .ok (.iload_n 1, 1) := by decide +kernel
theorem dX6_beginsIn_29 : decode cX6_beginsIn 29 = .ok (.sipush 600, 3) := by decide +kernel
theorem dX6_beginsIn_32 : decode cX6_beginsIn 32 = .ok (.invokevirtual 105, 3) := by decide +kernel
theorem dX6_beginsIn_35 : decode cX6_beginsIn 35 = .ok (.ireturn, 1) := by decide +kernel
theorem dX6_idleIn_0 : decode cX6_idleIn 0 = .ok (.aload_n 0, 1) := by decide +kernel
theorem dX6_idleIn_1 : decode cX6_idleIn 1 = .ok (.getfield 16, 3) := by decide +kernel
theorem dX6_idleIn_4 : decode cX6_idleIn 4 = .ok (.aload_n 0, 1) := by decide +kernel
theorem dX6_idleIn_5 : decode cX6_idleIn 5 = .ok (.getfield 10, 3) := by decide +kernel
theorem dX6_idleIn_8 : decode cX6_idleIn 8 = .ok (.invokevirtual 102, 3) := by decide +kernel
theorem dX6_idleIn_11 : decode cX6_idleIn 11 = .ok (.aload_n 0, 1) := by decide +kernel
theorem dX6_idleIn_12 : decode cX6_idleIn 12 = .ok (.getfield 16, 3) := by decide +kernel
theorem dX6_idleIn_15 : decode cX6_idleIn 15 = .ok (.sipush 600, 3) := by decide +kernel
theorem dX6_idleIn_18 : decode cX6_idleIn 18 = .ok (.invokevirtual 108, 3) := by decide +kernel
theorem dX6_idleIn_21 : decode cX6_idleIn 21 = .ok (.ireturn, 1) := by decide +kernel
theorem dX6_missesIn_0 : decode cX6_missesIn 0 = .ok (.iload_n 1, 1) := by decide +kernel
theorem dX6_missesIn_1 : decode cX6_missesIn 1 = .ok (.iconst 1, 1) := by decide +kernel
theorem dX6_missesIn_2 : decode cX6_missesIn 2 = .ok (.sipush 500, 3) := by decide +kernel
theorem dX6_missesIn_5 : decode cX6_missesIn 5 = .ok (.invokestatic 111, 3) := by decide +kernel
theorem dX6_missesIn_8 : decode cX6_missesIn 8 = .ok (.ifCond .ne 6, 3) := by decide +kernel
theorem dX6_missesIn_11 : decode cX6_missesIn 11 = .ok (.bipush (-2), 2) := by decide +kernel
theorem dX6_missesIn_13 : decode cX6_missesIn 13 = .ok (.ireturn, 1) := by decide +kernel
theorem dX6_missesIn_14 : decode cX6_missesIn 14 = .ok (.aload_n 0, 1) := by decide +kernel
theorem dX6_missesIn_15 : decode cX6_missesIn 15 = .ok (.getfield 16, 3) := by decide +kernel
theorem dX6_missesIn_18 : decode cX6_missesIn 18 = .ok (.aload_n 0, 1) := by decide +kernel
theorem dX6_missesIn_19 : decode cX6_missesIn 19 = .ok (.getfield 10, 3) := by decide +kernel
theorem dX6_missesIn_22 : decode cX6_missesIn 22 = .ok (.invokevirtual 102, 3) := by decide +kernel
theorem dX6_missesIn_25 : decode cX6_missesIn 25 = .ok (.aload_n 0, 1) := by decide +kernel
theorem dX6_missesIn_26 : decode cX6_missesIn 26 = .ok (.getfield 16, 3) := by decide +kernel
theorem dX6_missesIn_29 : decode cX6_missesIn 29 = .ok (.iload_n 1, 1) := by decide +kernel
theorem dX6_missesIn_30 : decode cX6_missesIn 30 = .ok (.invokevirtual 76, 3) := by decide +kernel
theorem dX6_missesIn_33 : decode cX6_missesIn 33 = .ok (.pop, 1) := by decide +kernel
theorem dX6_missesIn_34 : decode cX6_missesIn 34 = .ok (.aload_n 0, 1) := by decide +kernel
theorem dX6_missesIn_35 : decode cX6_missesIn 35 = .ok (.getfield 16, 3) := by decide +kernel
theorem dX6_missesIn_38 : decode cX6_missesIn 38 = .ok (.invokevirtual 115, 3) := by decide +kernel
theorem dX6_missesIn_41 : decode cX6_missesIn 41 = .ok (.aload_n 0, 1) := by decide +kernel
theorem dX6_missesIn_42 : decode cX6_missesIn 42 = .ok (.getfield 10, 3) := by decide +kernel
theorem dX6_missesIn_45 : decode cX6_missesIn 45 = .ok (.invokevirtual 115, 3) := by decide +kernel
theorem dX6_missesIn_48 : decode cX6_missesIn 48 = .ok (.isub, 1) := by decide +kernel
theorem dX6_missesIn_49 : decode cX6_missesIn 49 = .ok (.ireturn, 1) := by decide +kernel
theorem dX6_greatestBar_0 : decode cX6_greatestBar 0 = .ok (.aload_n 0, 1) := by decide +kernel
theorem dX6_greatestBar_1 : decode cX6_greatestBar 1 = .ok (.getfield 10, 3) := by decide +kernel
theorem dX6_greatestBar_4 : decode cX6_greatestBar 4 = .ok (.iload_n 1, 1) := by decide +kernel
theorem dX6_greatestBar_5 : decode cX6_greatestBar 5 = .ok (.invokevirtual 98, 3) := by decide +kernel
theorem dX6_greatestBar_8 : decode cX6_greatestBar 8 = .ok (.ifCond .ne 5, 3) := by decide +kernel
theorem dX6_greatestBar_11 : decode cX6_greatestBar 11 = .ok (.iconst (-1), 1) := by decide +kernel
theorem dX6_greatestBar_12 : decode cX6_greatestBar 12 = .ok (.ireturn, 1) := by decide +kernel
theorem dX6_greatestBar_13 : decode cX6_greatestBar 13 = .ok (.iload_n 2, 1) := by decide +kernel
theorem dX6_greatestBar_14 : decode cX6_greatestBar 14 = .ok (.iconst 1, 1) := by decide +kernel
theorem dX6_greatestBar_15 : decode cX6_greatestBar 15 = .ok (.sipush 200, 3) := by decide +kernel
theorem dX6_greatestBar_18 : decode cX6_greatestBar 18 = .ok (.invokestatic 111, 3) := by decide +kernel
theorem dX6_greatestBar_21 : decode cX6_greatestBar 21 = .ok (.ifCond .ne 6, 3) := by decide +kernel
theorem dX6_greatestBar_24 : decode cX6_greatestBar 24 = .ok (.bipush (-2), 2) := by decide +kernel
theorem dX6_greatestBar_26 : decode cX6_greatestBar 26 = .ok (.ireturn, 1) := by decide +kernel
theorem dX6_greatestBar_27 : decode cX6_greatestBar 27 = .ok (.getstatic 119, 3) := by decide +kernel
theorem dX6_greatestBar_30 : decode cX6_greatestBar 30 = .ok (.bipush 6, 2) := by decide +kernel
theorem dX6_greatestBar_32 : decode cX6_greatestBar 32 = .ok (.iaload, 1) := by decide +kernel
theorem dX6_greatestBar_33 : decode cX6_greatestBar 33 = .ok (.istore_n 3, 1) := by decide +kernel
theorem dX6_greatestBar_34 : decode cX6_greatestBar 34 = .ok (.iload_n 3, 1) := by decide +kernel
theorem dX6_greatestBar_35 : decode cX6_greatestBar 35 = .ok (.getstatic 123, 3) := by decide +kernel
theorem dX6_greatestBar_38 : decode cX6_greatestBar 38 = .ok (.bipush 6, 2) := by decide +kernel
theorem dX6_greatestBar_40 : decode cX6_greatestBar 40 = .ok (.iaload, 1) := by decide +kernel
theorem dX6_greatestBar_41 : decode cX6_greatestBar 41 = .ok (.if_icmp .lt 47, 3) := by decide +kernel
theorem dX6_greatestBar_44 : decode cX6_greatestBar 44 = .ok (.aload_n 0, 1) := by decide +kernel
theorem dX6_greatestBar_45 : decode cX6_greatestBar 45 = .ok (.getfield 16, 3) := by decide +kernel
theorem dX6_greatestBar_48 : decode cX6_greatestBar 48 = .ok (.aload_n 0, 1) := by decide +kernel
theorem dX6_greatestBar_49 : decode cX6_greatestBar 49 = .ok (.getfield 10, 3) := by decide +kernel
theorem dX6_greatestBar_52 : decode cX6_greatestBar 52 = .ok (.invokevirtual 102, 3) := by decide +kernel
theorem dX6_greatestBar_55 : decode cX6_greatestBar 55 = .ok (.aload_n 0, 1) := by decide +kernel
theorem dX6_greatestBar_56 : decode cX6_greatestBar 56 = .ok (.getfield 16, 3) := by decide +kernel
theorem dX6_greatestBar_59 : decode cX6_greatestBar 59 = .ok (.bipush 6, 2) := by decide +kernel
theorem dX6_greatestBar_61 : decode cX6_greatestBar 61 = .ok (.iload_n 3, 1) := by decide +kernel
theorem dX6_greatestBar_62 : decode cX6_greatestBar 62 = .ok (.invokevirtual 45, 3) := by decide +kernel
theorem dX6_greatestBar_65 : decode cX6_greatestBar 65 = .ok (.pop, 1) := by decide +kernel
theorem dX6_greatestBar_66 : decode cX6_greatestBar 66 = .ok (.aload_n 0, 1) := by decide +kernel
theorem dX6_greatestBar_67 : decode cX6_greatestBar 67 = .ok (.getfield 16, 3) := by decide +kernel
theorem dX6_greatestBar_70 : decode cX6_greatestBar 70 = .ok (.iload_n 1, 1) := by decide +kernel
theorem dX6_greatestBar_71 : decode cX6_greatestBar 71 = .ok (.iload_n 2, 1) := by decide +kernel
theorem dX6_greatestBar_72 : decode cX6_greatestBar 72 = .ok (.invokevirtual 105, 3) := by decide +kernel
theorem dX6_greatestBar_75 : decode cX6_greatestBar 75 = .ok (.bipush (-6), 2) := by decide +kernel
theorem dX6_greatestBar_77 : decode cX6_greatestBar 77 = .ok (.if_icmp .eq 5, 3) := by decide +kernel
theorem dX6_greatestBar_80 : decode cX6_greatestBar 80 = .ok (.iload_n 3, 1) := by decide +kernel
theorem dX6_greatestBar_81 : decode cX6_greatestBar 81 = .ok (.ireturn, 1) := by decide +kernel
theorem dX6_greatestBar_82 : decode cX6_greatestBar 82 = .ok (.iinc 3 (-1), 3) := by decide +kernel
theorem dX6_greatestBar_85 : decode cX6_greatestBar 85 = .ok (.goto (-51), 3) := by decide +kernel
theorem dX6_greatestBar_88 : decode cX6_greatestBar 88 = .ok (.bipush (-6), 2) := by decide +kernel
theorem dX6_greatestBar_90 : decode cX6_greatestBar 90 = .ok (.ireturn, 1) := by decide +kernel
theorem dX6_bound_0 : decode cX6_bound 0 = .ok (.aload_n 0, 1) := by decide +kernel
theorem dX6_bound_1 : decode cX6_bound 1 = .ok (.getfield 10, 3) := by decide +kernel
theorem dX6_bound_4 : decode cX6_bound 4 = .ok (.iload_n 1, 1) := by decide +kernel
theorem dX6_bound_5 : decode cX6_bound 5 = .ok (.invokevirtual 126, 3) := by decide +kernel
theorem dX6_bound_8 : decode cX6_bound 8 = .ok (.ireturn, 1) := by decide +kernel
theorem dX6_load_0 : decode cX6_load 0 = .ok (.aload_n 0, 1) := by decide +kernel
theorem dX6_load_1 : decode cX6_load 1 = .ok (.getfield 10, 3) := by decide +kernel
theorem dX6_load_4 : decode cX6_load 4 = .ok (.invokevirtual 129, 3) := by decide +kernel
theorem dX6_load_7 : decode cX6_load 7 = .ok (.ireturn, 1) := by decide +kernel
theorem dX6_put_0 : decode cX6_put 0 = .ok (.aload_n 0, 1) := by decide +kernel
theorem dX6_put_1 : decode cX6_put 1 = .ok (.getfield 37, 3) := by decide +kernel
theorem dX6_put_4 : decode cX6_put 4 = .ok (.lload_n 1, 1) := by decide +kernel
theorem dX6_put_5 : decode cX6_put 5 = .ok (.invokevirtual 132, 3) := by decide +kernel
theorem dX6_put_8 : decode cX6_put 8 = .ok (.ireturn, 1) := by decide +kernel
theorem dX6_wipe_0 : decode cX6_wipe 0 = .ok (.aload_n 0, 1) := by decide +kernel
theorem dX6_wipe_1 : decode cX6_wipe 1 = .ok (.getfield 37, 3) := by decide +kernel
theorem dX6_wipe_4 : decode cX6_wipe 4 = .ok (.invokevirtual 136, 3) := by decide +kernel
theorem dX6_wipe_7 : decode cX6_wipe 7 = .ok (.ireturn, 1) := by decide +kernel
theorem dX6_fault_0 : decode cX6_fault 0 = .ok (.aload_n 0, 1) := by decide +kernel
theorem dX6_fault_1 : decode cX6_fault 1 = .ok (.getfield 37, 3) := by decide +kernel
theorem dX6_fault_4 : decode cX6_fault 4 = .ok (.invokevirtual 139, 3) := by decide +kernel
theorem dX6_fault_7 : decode cX6_fault 7 = .ok (.ireturn, 1) := by decide +kernel
theorem dX6_carryOut_0 : decode cX6_carryOut 0 = .ok (.aload_n 0, 1) := by decide +kernel
theorem dX6_carryOut_1 : decode cX6_carryOut 1 = .ok (.getfield 37, 3) := by decide +kernel
theorem dX6_carryOut_4 : decode cX6_carryOut 4 = .ok (.invokevirtual 139, 3) := by decide +kernel
theorem dX6_carryOut_7 : decode cX6_carryOut 7 = .ok (.bipush (-6), 2) := by decide +kernel
theorem dX6_carryOut_9 : decode cX6_carryOut 9 = .ok (.if_icmp .eq 6, 3) := by decide +kernel
theorem dX6_carryOut_12 : decode cX6_carryOut 12 = .ok (.bipush (-3), 2) := by decide +kernel
theorem dX6_carryOut_14 : decode cX6_carryOut 14 = .ok (.ireturn, 1) := by decide +kernel
theorem dX6_carryOut_15 : decode cX6_carryOut 15 = .ok (.aload_n 0, 1) := by decide +kernel
theorem dX6_carryOut_16 : decode cX6_carryOut 16 = .ok (.getfield 30, 3) := by decide +kernel
theorem dX6_carryOut_19 : decode cX6_carryOut 19 = .ok (.aload_n 0, 1) := by decide +kernel
theorem dX6_carryOut_20 : decode cX6_carryOut 20 = .ok (.getfield 10, 3) := by decide +kernel
theorem dX6_carryOut_23 : decode cX6_carryOut 23 = .ok (.invokevirtual 41, 3) := by decide +kernel
theorem dX6_carryOut_26 : decode cX6_carryOut 26 = .ok (.iconst 0, 1) := by decide +kernel
theorem dX6_carryOut_27 : decode cX6_carryOut 27 = .ok (.istore_n 1, 1) := by decide +kernel
theorem dX6_carryOut_28 : decode cX6_carryOut 28 = .ok (.iconst 0, 1) := by decide +kernel
theorem dX6_carryOut_29 : decode cX6_carryOut 29 = .ok (.istore_n 2, 1) := by decide +kernel
theorem dX6_carryOut_30 : decode cX6_carryOut 30 = .ok (.iconst 0, 1) := by decide +kernel
theorem dX6_carryOut_31 : decode cX6_carryOut 31 = .ok (.istore_n 3, 1) := by decide +kernel
theorem dX6_carryOut_32 : decode cX6_carryOut 32 = .ok (.iload_n 3, 1) := by decide +kernel
theorem dX6_carryOut_33 : decode cX6_carryOut 33 = .ok (.aload_n 0, 1) := by decide +kernel
theorem dX6_carryOut_34 : decode cX6_carryOut 34 = .ok (.getfield 37, 3) := by decide +kernel
theorem dX6_carryOut_37 : decode cX6_carryOut 37 = .ok (.getfield 88, 3) := by decide +kernel
theorem dX6_carryOut_40 : decode cX6_carryOut 40 = .ok (.if_icmp .gt 42, 3) := by decide +kernel
theorem dX6_carryOut_43 : decode cX6_carryOut 43 = .ok (.aload_n 0, 1) := by decide +kernel
theorem dX6_carryOut_44 : decode cX6_carryOut 44 = .ok (.getfield 37, 3) := by decide +kernel
theorem dX6_carryOut_47 : decode cX6_carryOut 47 = .ok (.iload_n 3, 1) := by decide +kernel
theorem dX6_carryOut_48 : decode cX6_carryOut 48 = .ok (.invokevirtual 142, 3) := by decide +kernel
theorem dX6_carryOut_51 : decode cX6_carryOut 51 = .ok (.ifCond .ne 6, 3) := by decide +kernel
theorem dX6_carryOut_54 : decode cX6_carryOut 54 = .ok (.goto 22, 3) := by decide +kernel
theorem dX6_carryOut_57 : decode cX6_carryOut 57 = .ok (.aload_n 0, 1) := by decide +kernel
theorem dX6_carryOut_58 : decode cX6_carryOut 58 = .ok (.iload_n 2, 1) := by decide +kernel
theorem dX6_carryOut_59 : decode cX6_carryOut 59 = .ok (.iload_n 3, 1) := by decide +kernel
theorem dX6_carryOut_60 : decode cX6_carryOut 60 = .ok (.invokevirtual 145, 3) := by decide +kernel
theorem dX6_carryOut_63 : decode cX6_carryOut 63 = .ok (.ifCond .ge 6, 3) := by decide +kernel
theorem dX6_carryOut_66 : decode cX6_carryOut 66 = .ok (.goto 16, 3) := by decide +kernel
theorem dX6_carryOut_69 : decode cX6_carryOut 69 = .ok (.iinc 1 1, 3) := by decide +kernel
theorem dX6_carryOut_72 : decode cX6_carryOut 72 = .ok (.iload_n 3, 1) := by decide +kernel
theorem dX6_carryOut_73 : decode cX6_carryOut 73 = .ok (.iconst 1, 1) := by decide +kernel
theorem dX6_carryOut_74 : decode cX6_carryOut 74 = .ok (.iadd, 1) := by decide +kernel
theorem dX6_carryOut_75 : decode cX6_carryOut 75 = .ok (.istore_n 2, 1) := by decide +kernel
theorem dX6_carryOut_76 : decode cX6_carryOut 76 = .ok (.iinc 3 1, 3) := by decide +kernel
theorem dX6_carryOut_79 : decode cX6_carryOut 79 = .ok (.goto (-47), 3) := by decide +kernel
theorem dX6_carryOut_82 : decode cX6_carryOut 82 = .ok (.aload_n 0, 1) := by decide +kernel
theorem dX6_carryOut_83 : decode cX6_carryOut 83 = .ok (.getfield 37, 3) := by decide +kernel
theorem dX6_carryOut_86 : decode cX6_carryOut 86 = .ok (.invokevirtual 136, 3) := by decide +kernel
theorem dX6_carryOut_89 : decode cX6_carryOut 89 = .ok (.pop, 1) := by decide +kernel
theorem dX6_carryOut_90 : decode cX6_carryOut 90 = .ok (.aload_n 0, 1) := by decide +kernel
theorem dX6_carryOut_91 : decode cX6_carryOut 91 = .ok (.getfield 30, 3) := by decide +kernel
theorem dX6_carryOut_94 : decode cX6_carryOut 94 = .ok (.iload_n 1, 1) := by decide +kernel
theorem dX6_carryOut_95 : decode cX6_carryOut 95 = .ok (.invokevirtual 49, 3) := by decide +kernel
theorem dX6_carryOut_98 : decode cX6_carryOut 98 = .ok (.ireturn, 1) := by decide +kernel
theorem dX6_undo_0 : decode cX6_undo 0 = .ok (.aload_n 0, 1) := by decide +kernel
theorem dX6_undo_1 : decode cX6_undo 1 = .ok (.getfield 30, 3) := by decide +kernel
theorem dX6_undo_4 : decode cX6_undo 4 = .ok (.aload_n 0, 1) := by decide +kernel
theorem dX6_undo_5 : decode cX6_undo 5 = .ok (.getfield 10, 3) := by decide +kernel
theorem dX6_undo_8 : decode cX6_undo 8 = .ok (.invokevirtual 148, 3) := by decide +kernel
theorem dX6_undo_11 : decode cX6_undo 11 = .ok (.ireturn, 1) := by decide +kernel
theorem dX6_save_0 : decode cX6_save 0 = .ok (.iload_n 1, 1) := by decide +kernel
theorem dX6_save_1 : decode cX6_save 1 = .ok (.iconst 0, 1) := by decide +kernel
theorem dX6_save_2 : decode cX6_save 2 = .ok (.iconst 1, 1) := by decide +kernel
theorem dX6_save_3 : decode cX6_save 3 = .ok (.invokestatic 111, 3) := by decide +kernel
theorem dX6_save_6 : decode cX6_save 6 = .ok (.ifCond .ne 6, 3) := by decide +kernel
theorem dX6_save_9 : decode cX6_save 9 = .ok (.bipush (-2), 2) := by decide +kernel
theorem dX6_save_11 : decode cX6_save 11 = .ok (.ireturn, 1) := by decide +kernel
theorem dX6_save_12 : decode cX6_save 12 = .ok (.aload_n 0, 1) := by decide +kernel
theorem dX6_save_13 : decode cX6_save 13 = .ok (.getfield 19, 3) := by decide +kernel
theorem dX6_save_16 : decode cX6_save 16 = .ok (.iload_n 1, 1) := by decide +kernel
theorem dX6_save_17 : decode cX6_save 17 = .ok (.aaload, 1) := by decide +kernel
theorem dX6_save_18 : decode cX6_save 18 = .ok (.aload_n 0, 1) := by decide +kernel
theorem dX6_save_19 : decode cX6_save 19 = .ok (.getfield 10, 3) := by decide +kernel
theorem dX6_save_22 : decode cX6_save 22 = .ok (.invokevirtual 102, 3) := by decide +kernel
theorem dX6_save_25 : decode cX6_save 25 = .ok (.aload_n 0, 1) := by decide +kernel
theorem dX6_save_26 : decode cX6_save 26 = .ok (.getfield 23, 3) := by decide +kernel
theorem dX6_save_29 : decode cX6_save 29 = .ok (.iload_n 1, 1) := by decide +kernel
theorem dX6_save_30 : decode cX6_save 30 = .ok (.iconst 1, 1) := by decide +kernel
theorem dX6_save_31 : decode cX6_save 31 = .ok (.bastore, 1) := by decide +kernel
theorem dX6_save_32 : decode cX6_save 32 = .ok (.aload_n 0, 1) := by decide +kernel
theorem dX6_save_33 : decode cX6_save 33 = .ok (.getfield 10, 3) := by decide +kernel
theorem dX6_save_36 : decode cX6_save 36 = .ok (.getfield 152, 3) := by decide +kernel
theorem dX6_save_39 : decode cX6_save 39 = .ok (.ireturn, 1) := by decide +kernel
theorem dX6_restore_0 : decode cX6_restore 0 = .ok (.iload_n 1, 1) := by decide +kernel
theorem dX6_restore_1 : decode cX6_restore 1 = .ok (.iconst 0, 1) := by decide +kernel
theorem dX6_restore_2 : decode cX6_restore 2 = .ok (.iconst 1, 1) := by decide +kernel
theorem dX6_restore_3 : decode cX6_restore 3 = .ok (.invokestatic 111, 3) := by decide +kernel
theorem dX6_restore_6 : decode cX6_restore 6 = .ok (.ifCond .ne 6, 3) := by decide +kernel
theorem dX6_restore_9 : decode cX6_restore 9 = .ok (.bipush (-2), 2) := by decide +kernel
theorem dX6_restore_11 : decode cX6_restore 11 = .ok (.ireturn, 1) := by decide +kernel
theorem dX6_restore_12 : decode cX6_restore 12 = .ok (.aload_n 0, 1) := by decide +kernel
theorem dX6_restore_13 : decode cX6_restore 13 = .ok (.getfield 23, 3) := by decide +kernel
theorem dX6_restore_16 : decode cX6_restore 16 = .ok (.iload_n 1, 1) := by decide +kernel
theorem dX6_restore_17 : decode cX6_restore 17 = .ok (.baload, 1) := by decide +kernel
theorem dX6_restore_18 : decode cX6_restore 18 = .ok (.ifCond .ne 6, 3) := by decide +kernel
theorem dX6_restore_21 : decode cX6_restore 21 = .ok (.bipush (-5), 2) := by decide +kernel
theorem dX6_restore_23 : decode cX6_restore 23 = .ok (.ireturn, 1) := by decide +kernel
theorem dX6_restore_24 : decode cX6_restore 24 = .ok (.aload_n 0, 1) := by decide +kernel
theorem dX6_restore_25 : decode cX6_restore 25 = .ok (.getfield 30, 3) := by decide +kernel
theorem dX6_restore_28 : decode cX6_restore 28 = .ok (.aload_n 0, 1) := by decide +kernel
theorem dX6_restore_29 : decode cX6_restore 29 = .ok (.getfield 10, 3) := by decide +kernel
theorem dX6_restore_32 : decode cX6_restore 32 = .ok (.invokevirtual 41, 3) := by decide +kernel
theorem dX6_restore_35 : decode cX6_restore 35 = .ok (.aload_n 0, 1) := by decide +kernel
theorem dX6_restore_36 : decode cX6_restore 36 = .ok (.getfield 10, 3) := by decide +kernel
theorem dX6_restore_39 : decode cX6_restore 39 = .ok (.aload_n 0, 1) := by decide +kernel
theorem dX6_restore_40 : decode cX6_restore 40 = .ok (.getfield 19, 3) := by decide +kernel
theorem dX6_restore_43 : decode cX6_restore 43 = .ok (.iload_n 1, 1) := by decide +kernel
theorem dX6_restore_44 : decode cX6_restore 44 = .ok (.aaload, 1) := by decide +kernel
theorem dX6_restore_45 : decode cX6_restore 45 = .ok (.invokevirtual 102, 3) := by decide +kernel
theorem dX6_restore_48 : decode cX6_restore 48 = .ok (.aload_n 0, 1) := by decide +kernel
theorem dX6_restore_49 : decode cX6_restore 49 = .ok (.getfield 30, 3) := by decide +kernel
theorem dX6_restore_52 : decode cX6_restore 52 = .ok (.aload_n 0, 1) := by decide +kernel
theorem dX6_restore_53 : decode cX6_restore 53 = .ok (.getfield 10, 3) := by decide +kernel
theorem dX6_restore_56 : decode cX6_restore 56 = .ok (.getfield 152, 3) := by decide +kernel
theorem dX6_restore_59 : decode cX6_restore 59 = .ok (.invokevirtual 49, 3) := by decide +kernel
theorem dX6_restore_62 : decode cX6_restore 62 = .ok (.ireturn, 1) := by decide +kernel
theorem dX6_obey_0 : decode cX6_obey 0 = .ok (.aload_n 0, 1) := by decide +kernel
theorem dX6_obey_1 : decode cX6_obey 1 = .ok (.getfield 37, 3) := by decide +kernel
theorem dX6_obey_4 : decode cX6_obey 4 = .ok (.iload_n 1, 1) := by decide +kernel
theorem dX6_obey_5 : decode cX6_obey 5 = .ok (.iconst 1, 1) := by decide +kernel
theorem dX6_obey_6 : decode cX6_obey 6 = .ok (.iadd, 1) := by decide +kernel
theorem dX6_obey_7 : decode cX6_obey 7 = .ok (.invokevirtual 155, 3) := by decide +kernel
theorem dX6_obey_10 : decode cX6_obey 10 = .ok (.bipush 65, 2) := by decide +kernel
theorem dX6_obey_12 : decode cX6_obey 12 = .ok (.isub, 1) := by decide +kernel
theorem dX6_obey_13 : decode cX6_obey 13 = .ok (.istore_n 3, 1) := by decide +kernel
theorem dX6_obey_14 : decode cX6_obey 14 = .ok (.aload_n 0, 1) := by decide +kernel
theorem dX6_obey_15 : decode cX6_obey 15 = .ok (.getfield 37, 3) := by decide +kernel
theorem dX6_obey_18 : decode cX6_obey 18 = .ok (.iload_n 1, 1) := by decide +kernel
theorem dX6_obey_19 : decode cX6_obey 19 = .ok (.invokevirtual 155, 3) := by decide +kernel
theorem dX6_obey_22 : decode cX6_obey 22 = .ok (.tableswitch 145 104 117 #[79, 145, 145, 145, 102, 125, 135, 145, 145, 145, 145, 145, 145, 70], 70) := by decide +kernel
theorem dX6_obey_92 : decode cX6_obey 92 = .ok (.aload_n 0, 1) := by decide +kernel
theorem dX6_obey_93 : decode cX6_obey 93 = .ok (.getfield 10, 3) := by decide +kernel
theorem dX6_obey_96 : decode cX6_obey 96 = .ok (.iload_n 3, 1) := by decide +kernel
theorem dX6_obey_97 : decode cX6_obey 97 = .ok (.invokevirtual 64, 3) := by decide +kernel
theorem dX6_obey_100 : decode cX6_obey 100 = .ok (.ireturn, 1) := by decide +kernel
theorem dX6_obey_101 : decode cX6_obey 101 = .ok (.aload_n 0, 1) := by decide +kernel
theorem dX6_obey_102 : decode cX6_obey 102 = .ok (.getfield 10, 3) := by decide +kernel
theorem dX6_obey_105 : decode cX6_obey 105 = .ok (.iload_n 3, 1) := by decide +kernel
theorem dX6_obey_106 : decode cX6_obey 106 = .ok (.aload_n 0, 1) := by decide +kernel
theorem dX6_obey_107 : decode cX6_obey 107 = .ok (.getfield 37, 3) := by decide +kernel
theorem dX6_obey_110 : decode cX6_obey 110 = .ok (.iload_n 1, 1) := by decide +kernel
theorem dX6_obey_111 : decode cX6_obey 111 = .ok (.iconst 2, 1) := by decide +kernel
theorem dX6_obey_112 : decode cX6_obey 112 = .ok (.iadd, 1) := by decide +kernel
theorem dX6_obey_113 : decode cX6_obey 113 = .ok (.invokevirtual 155, 3) := by decide +kernel
theorem dX6_obey_116 : decode cX6_obey 116 = .ok (.bipush 48, 2) := by decide +kernel
theorem dX6_obey_118 : decode cX6_obey 118 = .ok (.isub, 1) := by decide +kernel
theorem dX6_obey_119 : decode cX6_obey 119 = .ok (.iconst 1, 1) := by decide +kernel
theorem dX6_obey_120 : decode cX6_obey 120 = .ok (.invokevirtual 67, 3) := by decide +kernel
theorem dX6_obey_123 : decode cX6_obey 123 = .ok (.ireturn, 1) := by decide +kernel
theorem dX6_obey_124 : decode cX6_obey 124 = .ok (.aload_n 0, 1) := by decide +kernel
theorem dX6_obey_125 : decode cX6_obey 125 = .ok (.getfield 10, 3) := by decide +kernel
theorem dX6_obey_128 : decode cX6_obey 128 = .ok (.iload_n 3, 1) := by decide +kernel
theorem dX6_obey_129 : decode cX6_obey 129 = .ok (.aload_n 0, 1) := by decide +kernel
theorem dX6_obey_130 : decode cX6_obey 130 = .ok (.getfield 37, 3) := by decide +kernel
theorem dX6_obey_133 : decode cX6_obey 133 = .ok (.iload_n 1, 1) := by decide +kernel
theorem dX6_obey_134 : decode cX6_obey 134 = .ok (.iconst 2, 1) := by decide +kernel
theorem dX6_obey_135 : decode cX6_obey 135 = .ok (.iadd, 1) := by decide +kernel
theorem dX6_obey_136 : decode cX6_obey 136 = .ok (.invokevirtual 155, 3) := by decide +kernel
theorem dX6_obey_139 : decode cX6_obey 139 = .ok (.bipush 48, 2) := by decide +kernel
theorem dX6_obey_141 : decode cX6_obey 141 = .ok (.isub, 1) := by decide +kernel
theorem dX6_obey_142 : decode cX6_obey 142 = .ok (.iconst 0, 1) := by decide +kernel
theorem dX6_obey_143 : decode cX6_obey 143 = .ok (.invokevirtual 67, 3) := by decide +kernel
theorem dX6_obey_146 : decode cX6_obey 146 = .ok (.ireturn, 1) := by decide +kernel
theorem dX6_obey_147 : decode cX6_obey 147 = .ok (.aload_n 0, 1) := by decide +kernel
theorem dX6_obey_148 : decode cX6_obey 148 = .ok (.getfield 10, 3) := by decide +kernel
theorem dX6_obey_151 : decode cX6_obey 151 = .ok (.iload_n 3, 1) := by decide +kernel
theorem dX6_obey_152 : decode cX6_obey 152 = .ok (.iconst 1, 1) := by decide +kernel
theorem dX6_obey_153 : decode cX6_obey 153 = .ok (.invokevirtual 70, 3) := by decide +kernel
theorem dX6_obey_156 : decode cX6_obey 156 = .ok (.ireturn, 1) := by decide +kernel
theorem dX6_obey_157 : decode cX6_obey 157 = .ok (.aload_n 0, 1) := by decide +kernel
theorem dX6_obey_158 : decode cX6_obey 158 = .ok (.getfield 10, 3) := by decide +kernel
theorem dX6_obey_161 : decode cX6_obey 161 = .ok (.iload_n 3, 1) := by decide +kernel
theorem dX6_obey_162 : decode cX6_obey 162 = .ok (.iconst 0, 1) := by decide +kernel
theorem dX6_obey_163 : decode cX6_obey 163 = .ok (.invokevirtual 70, 3) := by decide +kernel
theorem dX6_obey_166 : decode cX6_obey 166 = .ok (.ireturn, 1) := by decide +kernel
theorem dX6_obey_167 : decode cX6_obey 167 = .ok (.aload_n 0, 1) := by decide +kernel
theorem dX6_obey_168 : decode cX6_obey 168 = .ok (.getfield 10, 3) := by decide +kernel
theorem dX6_obey_171 : decode cX6_obey 171 = .ok (.aload_n 0, 1) := by decide +kernel
theorem dX6_obey_172 : decode cX6_obey 172 = .ok (.getfield 37, 3) := by decide +kernel
theorem dX6_obey_175 : decode cX6_obey 175 = .ok (.iload_n 1, 1) := by decide +kernel
theorem dX6_obey_176 : decode cX6_obey 176 = .ok (.iconst 1, 1) := by decide +kernel
theorem dX6_obey_177 : decode cX6_obey 177 = .ok (.iadd, 1) := by decide +kernel
theorem dX6_obey_178 : decode cX6_obey 178 = .ok (.iload_n 2, 1) := by decide +kernel
theorem dX6_obey_179 : decode cX6_obey 179 = .ok (.invokevirtual 159, 3) := by decide +kernel
theorem dX6_obey_182 : decode cX6_obey 182 = .ok (.invokevirtual 76, 3) := by decide +kernel
theorem dX6_obey_185 : decode cX6_obey 185 = .ok (.ireturn, 1) := by decide +kernel
theorem dX6_within_0 : decode cX6_within 0 = .ok (.iload_n 0, 1) := by decide +kernel
theorem dX6_within_1 : decode cX6_within 1 = .ok (.iload_n 1, 1) := by decide +kernel
theorem dX6_within_2 : decode cX6_within 2 = .ok (.if_icmp .lt 12, 3) := by decide +kernel
theorem dX6_within_5 : decode cX6_within 5 = .ok (.iload_n 0, 1) := by decide +kernel
theorem dX6_within_6 : decode cX6_within 6 = .ok (.iload_n 2, 1) := by decide +kernel
theorem dX6_within_7 : decode cX6_within 7 = .ok (.if_icmp .gt 7, 3) := by decide +kernel
theorem dX6_within_10 : decode cX6_within 10 = .ok (.iconst 1, 1) := by decide +kernel
theorem dX6_within_11 : decode cX6_within 11 = .ok (.goto 4, 3) := by decide +kernel
theorem dX6_within_14 : decode cX6_within 14 = .ok (.iconst 0, 1) := by decide +kernel
theorem dX6_within_15 : decode cX6_within 15 = .ok (.ireturn, 1) := by decide +kernel
theorem dX6_dividedUp_0 : decode cX6_dividedUp 0 = .ok (.lload_n 2, 1) := by decide +kernel
theorem dX6_dividedUp_1 : decode cX6_dividedUp 1 = .ok (.lconst 0, 1) := by decide +kernel
theorem dX6_dividedUp_2 : decode cX6_dividedUp 2 = .ok (.lcmp, 1) := by decide +kernel
theorem dX6_dividedUp_3 : decode cX6_dividedUp 3 = .ok (.ifCond .le 13, 3) := by decide +kernel
theorem dX6_dividedUp_6 : decode cX6_dividedUp 6 = .ok (.lload_n 0, 1) := by decide +kernel
theorem dX6_dividedUp_7 : decode cX6_dividedUp 7 = .ok (.lload_n 2, 1) := by decide +kernel
theorem dX6_dividedUp_8 : decode cX6_dividedUp 8 = .ok (.ladd, 1) := by decide +kernel
theorem dX6_dividedUp_9 : decode cX6_dividedUp 9 = .ok (.lconst 1, 1) := by decide +kernel
theorem dX6_dividedUp_10 : decode cX6_dividedUp 10 = .ok (.lsub, 1) := by decide +kernel
theorem dX6_dividedUp_11 : decode cX6_dividedUp 11 = .ok (.lload_n 2, 1) := by decide +kernel
theorem dX6_dividedUp_12 : decode cX6_dividedUp 12 = .ok (.ldiv, 1) := by decide +kernel
theorem dX6_dividedUp_13 : decode cX6_dividedUp 13 = .ok (.goto 4, 3) := by decide +kernel
theorem dX6_dividedUp_16 : decode cX6_dividedUp 16 = .ok (.lconst 0, 1) := by decide +kernel
theorem dX6_dividedUp_17 : decode cX6_dividedUp 17 = .ok (.lreturn, 1) := by decide +kernel
end
section
-- decode rows, printed by the check's program
theorem dX7_init_0 : decode cX7_init 0 = .ok (.aload_n 0, 1) := by decide +kernel
theorem dX7_init_1 : decode cX7_init 1 = .ok (.invokespecial 1, 3) := by decide +kernel
theorem dX7_init_4 : decode cX7_init 4 = .ok (.aload_n 0, 1) := by decide +kernel
theorem dX7_init_5 : decode cX7_init 5 = .ok (.sipush 280, 3) := by decide +kernel
theorem dX7_init_8 : decode cX7_init 8 = .ok (.newarray .int, 2) := by decide +kernel
theorem dX7_init_10 : decode cX7_init 10 = .ok (.putfield 7, 3) := by decide +kernel
theorem dX7_init_13 : decode cX7_init 13 = .ok (.aload_n 0, 1) := by decide +kernel
theorem dX7_init_14 : decode cX7_init 14 = .ok (.sipush 280, 3) := by decide +kernel
theorem dX7_init_17 : decode cX7_init 17 = .ok (.newarray .int, 2) := by decide +kernel
theorem dX7_init_19 : decode cX7_init 19 = .ok (.putfield 13, 3) := by decide +kernel
theorem dX7_init_22 : decode cX7_init 22 = .ok (.aload_n 0, 1) := by decide +kernel
theorem dX7_init_23 : decode cX7_init 23 = .ok (.sipush 1680, 3) := by decide +kernel
theorem dX7_init_26 : decode cX7_init 26 = .ok (.newarray .int, 2) := by decide +kernel
theorem dX7_init_28 : decode cX7_init 28 = .ok (.putfield 16, 3) := by decide +kernel
theorem dX7_init_31 : decode cX7_init 31 = .ok (.aload_n 0, 1) := by decide +kernel
theorem dX7_init_32 : decode cX7_init 32 = .ok (.sipush 560, 3) := by decide +kernel
theorem dX7_init_35 : decode cX7_init 35 = .ok (.newarray .int, 2) := by decide +kernel
theorem dX7_init_37 : decode cX7_init 37 = .ok (.putfield 19, 3) := by decide +kernel
theorem dX7_init_40 : decode cX7_init 40 = .ok (.aload_n 0, 1) := by decide +kernel
theorem dX7_init_41 : decode cX7_init 41 = .ok (.iconst 2, 1) := by decide +kernel
theorem dX7_init_42 : decode cX7_init 42 = .ok (.newarray .boolean, 2) := by decide +kernel
theorem dX7_init_44 : decode cX7_init 44 = .ok (.putfield 22, 3) := by decide +kernel
theorem dX7_init_47 : decode cX7_init 47 = .ok (.aload_n 0, 1) := by decide +kernel
theorem dX7_init_48 : decode cX7_init 48 = .ok (.bipush 80, 2) := by decide +kernel
theorem dX7_init_50 : decode cX7_init 50 = .ok (.newarray .int, 2) := by decide +kernel
theorem dX7_init_52 : decode cX7_init 52 = .ok (.putfield 26, 3) := by decide +kernel
theorem dX7_init_55 : decode cX7_init 55 = .ok (.aload_n 0, 1) := by decide +kernel
theorem dX7_init_56 : decode cX7_init 56 = .ok (.sipush 240, 3) := by decide +kernel
theorem dX7_init_59 : decode cX7_init 59 = .ok (.newarray .int, 2) := by decide +kernel
theorem dX7_init_61 : decode cX7_init 61 = .ok (.putfield 29, 3) := by decide +kernel
theorem dX7_init_64 : decode cX7_init 64 = .ok (.aload_n 0, 1) := by decide +kernel
theorem dX7_init_65 : decode cX7_init 65 = .ok (.getfield 7, 3) := by decide +kernel
theorem dX7_init_68 : decode cX7_init 68 = .ok (.iconst 0, 1) := by decide +kernel
theorem dX7_init_69 : decode cX7_init 69 = .ok (.bipush 20, 2) := by decide +kernel
theorem dX7_init_71 : decode cX7_init 71 = .ok (.iastore, 1) := by decide +kernel
theorem dX7_init_72 : decode cX7_init 72 = .ok (.aload_n 0, 1) := by decide +kernel
theorem dX7_init_73 : decode cX7_init 73 = .ok (.getfield 7, 3) := by decide +kernel
theorem dX7_init_76 : decode cX7_init 76 = .ok (.iconst 1, 1) := by decide +kernel
theorem dX7_init_77 : decode cX7_init 77 = .ok (.bipush 24, 2) := by decide +kernel
theorem dX7_init_79 : decode cX7_init 79 = .ok (.iastore, 1) := by decide +kernel
theorem dX7_init_80 : decode cX7_init 80 = .ok (.aload_n 0, 1) := by decide +kernel
theorem dX7_init_81 : decode cX7_init 81 = .ok (.getfield 7, 3) := by decide +kernel
theorem dX7_init_84 : decode cX7_init 84 = .ok (.iconst 2, 1) := by decide +kernel
theorem dX7_init_85 : decode cX7_init 85 = .ok (.iconst 1, 1) := by decide +kernel
theorem dX7_init_86 : decode cX7_init 86 = .ok (.iastore, 1) := by decide +kernel
theorem dX7_init_87 : decode cX7_init 87 = .ok (.aload_n 0, 1) := by decide +kernel
theorem dX7_init_88 : decode cX7_init 88 = .ok (.getfield 7, 3) := by decide +kernel
theorem dX7_init_91 : decode cX7_init 91 = .ok (.iconst 3, 1) := by decide +kernel
theorem dX7_init_92 : decode cX7_init 92 = .ok (.iconst 3, 1) := by decide +kernel
theorem dX7_init_93 : decode cX7_init 93 = .ok (.iastore, 1) := by decide +kernel
theorem dX7_init_94 : decode cX7_init 94 = .ok (.aload_n 0, 1) := by decide +kernel
theorem dX7_init_95 : decode cX7_init 95 = .ok (.getfield 7, 3) := by decide +kernel
theorem dX7_init_98 : decode cX7_init 98 = .ok (.iconst 4, 1) := by decide +kernel
theorem dX7_init_99 : decode cX7_init 99 = .ok (.iconst 1, 1) := by decide +kernel
theorem dX7_init_100 : decode cX7_init 100 = .ok (.iastore, 1) := by decide +kernel
theorem dX7_init_101 : decode cX7_init 101 = .ok (.aload_n 0, 1) := by decide +kernel
theorem dX7_init_102 : decode cX7_init 102 = .ok (.getfield 7, 3) := by decide +kernel
theorem dX7_init_105 : decode cX7_init 105 = .ok (.iconst 5, 1) := by decide +kernel
theorem dX7_init_106 : decode cX7_init 106 = .ok (.iconst 1, 1) := by decide +kernel
theorem dX7_init_107 : decode cX7_init 107 = .ok (.iastore, 1) := by decide +kernel
theorem dX7_init_108 : decode cX7_init 108 = .ok (.return_, 1) := by decide +kernel
theorem dX7_in_0 : decode cX7_in 0 = .ok (.iload_n 0, 1) := by decide +kernel
theorem dX7_in_1 : decode cX7_in 1 = .ok (.iload_n 1, 1) := by decide +kernel
theorem dX7_in_2 : decode cX7_in 2 = .ok (.if_icmp .lt 12, 3) := by decide +kernel
theorem dX7_in_5 : decode cX7_in 5 = .ok (.iload_n 0, 1) := by decide +kernel
theorem dX7_in_6 : decode cX7_in 6 = .ok (.iload_n 2, 1) := by decide +kernel
theorem dX7_in_7 : decode cX7_in 7 = .ok (.if_icmp .gt 7, 3) := by decide +kernel
theorem dX7_in_10 : decode cX7_in 10 = .ok (.iconst 1, 1) := by decide +kernel
theorem dX7_in_11 : decode cX7_in 11 = .ok (.goto 4, 3) := by decide +kernel
theorem dX7_in_14 : decode cX7_in 14 = .ok (.iconst 0, 1) := by decide +kernel
theorem dX7_in_15 : decode cX7_in 15 = .ok (.ireturn, 1) := by decide +kernel
theorem dX7_record_0 : decode cX7_record 0 = .ok (.aload_n 0, 1) := by decide +kernel
theorem dX7_record_1 : decode cX7_record 1 = .ok (.getfield 32, 3) := by decide +kernel
theorem dX7_record_4 : decode cX7_record 4 = .ok (.ifCond .eq 4, 3) := by decide +kernel
theorem dX7_record_7 : decode cX7_record 7 = .ok (.return_, 1) := by decide +kernel
theorem dX7_record_8 : decode cX7_record 8 = .ok (.aload_n 0, 1) := by decide +kernel
theorem dX7_record_9 : decode cX7_record 9 = .ok (.getfield 36, 3) := by decide +kernel
theorem dX7_record_12 : decode cX7_record 12 = .ok (.bipush 6, 2) := by decide +kernel
theorem dX7_record_14 : decode cX7_record 14 = .ok (.if_icmp .ne 39, 3) := by decide +kernel
theorem dX7_record_17 : decode cX7_record 17 = .ok (.iconst 0, 1) := by decide +kernel
theorem dX7_record_18 : decode cX7_record 18 = .ok (.istore_n 1, 1) := by decide +kernel
theorem dX7_record_19 : decode cX7_record 19 = .ok (.iload_n 1, 1) := by decide +kernel
theorem dX7_record_20 : decode cX7_record 20 = .ok (.sipush 1400, 3) := by decide +kernel
theorem dX7_record_23 : decode cX7_record 23 = .ok (.if_icmp .ge 25, 3) := by decide +kernel
theorem dX7_record_26 : decode cX7_record 26 = .ok (.aload_n 0, 1) := by decide +kernel
theorem dX7_record_27 : decode cX7_record 27 = .ok (.getfield 16, 3) := by decide +kernel
theorem dX7_record_30 : decode cX7_record 30 = .ok (.iload_n 1, 1) := by decide +kernel
theorem dX7_record_31 : decode cX7_record 31 = .ok (.aload_n 0, 1) := by decide +kernel
theorem dX7_record_32 : decode cX7_record 32 = .ok (.getfield 16, 3) := by decide +kernel
theorem dX7_record_35 : decode cX7_record 35 = .ok (.iload_n 1, 1) := by decide +kernel
theorem dX7_record_36 : decode cX7_record 36 = .ok (.sipush 280, 3) := by decide +kernel
theorem dX7_record_39 : decode cX7_record 39 = .ok (.iadd, 1) := by decide +kernel
theorem dX7_record_40 : decode cX7_record 40 = .ok (.iaload, 1) := by decide +kernel
theorem dX7_record_41 : decode cX7_record 41 = .ok (.iastore, 1) := by decide +kernel
theorem dX7_record_42 : decode cX7_record 42 = .ok (.iinc 1 1, 3) := by decide +kernel
theorem dX7_record_45 : decode cX7_record 45 = .ok (.goto (-26), 3) := by decide +kernel
theorem dX7_record_48 : decode cX7_record 48 = .ok (.aload_n 0, 1) := by decide +kernel
theorem dX7_record_49 : decode cX7_record 49 = .ok (.iconst 5, 1) := by decide +kernel
theorem dX7_record_50 : decode cX7_record 50 = .ok (.putfield 36, 3) := by decide +kernel
theorem dX7_record_53 : decode cX7_record 53 = .ok (.iconst 0, 1) := by decide +kernel
theorem dX7_record_54 : decode cX7_record 54 = .ok (.istore_n 1, 1) := by decide +kernel
theorem dX7_record_55 : decode cX7_record 55 = .ok (.iload_n 1, 1) := by decide +kernel
theorem dX7_record_56 : decode cX7_record 56 = .ok (.sipush 280, 3) := by decide +kernel
theorem dX7_record_59 : decode cX7_record 59 = .ok (.if_icmp .ge 30, 3) := by decide +kernel
theorem dX7_record_62 : decode cX7_record 62 = .ok (.aload_n 0, 1) := by decide +kernel
theorem dX7_record_63 : decode cX7_record 63 = .ok (.getfield 16, 3) := by decide +kernel
theorem dX7_record_66 : decode cX7_record 66 = .ok (.aload_n 0, 1) := by decide +kernel
theorem dX7_record_67 : decode cX7_record 67 = .ok (.getfield 36, 3) := by decide +kernel
theorem dX7_record_70 : decode cX7_record 70 = .ok (.sipush 280, 3) := by decide +kernel
theorem dX7_record_73 : decode cX7_record 73 = .ok (.imul, 1) := by decide +kernel
theorem dX7_record_74 : decode cX7_record 74 = .ok (.iload_n 1, 1) := by decide +kernel
theorem dX7_record_75 : decode cX7_record 75 = .ok (.iadd, 1) := by decide +kernel
theorem dX7_record_76 : decode cX7_record 76 = .ok (.aload_n 0, 1) := by decide +kernel
theorem dX7_record_77 : decode cX7_record 77 = .ok (.getfield 7, 3) := by decide +kernel
theorem dX7_record_80 : decode cX7_record 80 = .ok (.iload_n 1, 1) := by decide +kernel
theorem dX7_record_81 : decode cX7_record 81 = .ok (.iaload, 1) := by decide +kernel
theorem dX7_record_82 : decode cX7_record 82 = .ok (.iastore, 1) := by decide +kernel
theorem dX7_record_83 : decode cX7_record 83 = .ok (.iinc 1 1, 3) := by decide +kernel
theorem dX7_record_86 : decode cX7_record 86 = .ok (.goto (-31), 3) := by decide +kernel
theorem dX7_record_89 : decode cX7_record 89 = .ok (.aload_n 0, 1) := by decide +kernel
theorem dX7_record_90 : decode cX7_record 90 = .ok (.dup, 1) := by decide +kernel
theorem dX7_record_91 : decode cX7_record 91 = .ok (.getfield 36, 3) := by decide +kernel
theorem dX7_record_94 : decode cX7_record 94 = .ok (.iconst 1, 1) := by decide +kernel
theorem dX7_record_95 : decode cX7_record 95 = .ok (.iadd, 1) := by decide +kernel
theorem dX7_record_96 : decode cX7_record 96 = .ok (.putfield 36, 3) := by decide +kernel
theorem dX7_record_99 : decode cX7_record 99 = .ok (.return_, 1) := by decide +kernel
theorem dX7_keep_0 : decode cX7_keep 0 = .ok (.iconst 0, 1) := by decide +kernel
theorem dX7_keep_1 : decode cX7_keep 1 = .ok (.istore_n 1, 1) := by decide +kernel
theorem dX7_keep_2 : decode cX7_keep 2 = .ok (.iload_n 1, 1) := by decide +kernel
theorem dX7_keep_3 : decode cX7_keep 3 = .ok (.sipush 280, 3) := by decide +kernel
theorem dX7_keep_6 : decode cX7_keep 6 = .ok (.if_icmp .ge 21, 3) := by decide +kernel
theorem dX7_keep_9 : decode cX7_keep 9 = .ok (.aload_n 0, 1) := by decide +kernel
theorem dX7_keep_10 : decode cX7_keep 10 = .ok (.getfield 13, 3) := by decide +kernel
theorem dX7_keep_13 : decode cX7_keep 13 = .ok (.iload_n 1, 1) := by decide +kernel
theorem dX7_keep_14 : decode cX7_keep 14 = .ok (.aload_n 0, 1) := by decide +kernel
theorem dX7_keep_15 : decode cX7_keep 15 = .ok (.getfield 7, 3) := by decide +kernel
theorem dX7_keep_18 : decode cX7_keep 18 = .ok (.iload_n 1, 1) := by decide +kernel
theorem dX7_keep_19 : decode cX7_keep 19 = .ok (.iaload, 1) := by decide +kernel
theorem dX7_keep_20 : decode cX7_keep 20 = .ok (.iastore, 1) := by decide +kernel
theorem dX7_keep_21 : decode cX7_keep 21 = .ok (.iinc 1 1, 3) := by decide +kernel
theorem dX7_keep_24 : decode cX7_keep 24 = .ok (.goto (-22), 3) := by decide +kernel
theorem dX7_keep_27 : decode cX7_keep 27 = .ok (.return_, 1) := by decide +kernel
theorem dX7_comeBack_0 : decode cX7_comeBack 0 = .ok (.iconst 0, 1) := by decide +kernel
theorem dX7_comeBack_1 : decode cX7_comeBack 1 = .ok (.istore_n 1, 1) := by decide +kernel
theorem dX7_comeBack_2 : decode cX7_comeBack 2 = .ok (.iload_n 1, 1) := by decide +kernel
theorem dX7_comeBack_3 : decode cX7_comeBack 3 = .ok (.sipush 280, 3) := by decide +kernel
theorem dX7_comeBack_6 : decode cX7_comeBack 6 = .ok (.if_icmp .ge 21, 3) := by decide +kernel
theorem dX7_comeBack_9 : decode cX7_comeBack 9 = .ok (.aload_n 0, 1) := by decide +kernel
theorem dX7_comeBack_10 : decode cX7_comeBack 10 = .ok (.getfield 7, 3) := by decide +kernel
theorem dX7_comeBack_13 : decode cX7_comeBack 13 = .ok (.iload_n 1, 1) := by decide +kernel
theorem dX7_comeBack_14 : decode cX7_comeBack 14 = .ok (.aload_n 0, 1) := by decide +kernel
theorem dX7_comeBack_15 : decode cX7_comeBack 15 = .ok (.getfield 13, 3) := by decide +kernel
theorem dX7_comeBack_18 : decode cX7_comeBack 18 = .ok (.iload_n 1, 1) := by decide +kernel
theorem dX7_comeBack_19 : decode cX7_comeBack 19 = .ok (.iaload, 1) := by decide +kernel
theorem dX7_comeBack_20 : decode cX7_comeBack 20 = .ok (.iastore, 1) := by decide +kernel
theorem dX7_comeBack_21 : decode cX7_comeBack 21 = .ok (.iinc 1 1, 3) := by decide +kernel
theorem dX7_comeBack_24 : decode cX7_comeBack 24 = .ok (.goto (-22), 3) := by decide +kernel
theorem dX7_comeBack_27 : decode cX7_comeBack 27 = .ok (.return_, 1) := by decide +kernel
theorem dX7_least_0 : decode cX7_least 0 = .ok (.iload_n 0, 1) := by decide +kernel
theorem dX7_least_1 : decode cX7_least 1 = .ok (.iconst 2, 1) := by decide +kernel
theorem dX7_least_2 : decode cX7_least 2 = .ok (.if_icmp .eq 8, 3) := by decide +kernel
theorem dX7_least_5 : decode cX7_least 5 = .ok (.iload_n 0, 1) := by decide +kernel
theorem dX7_least_6 : decode cX7_least 6 = .ok (.iconst 3, 1) := by decide +kernel
theorem dX7_least_7 : decode cX7_least 7 = .ok (.if_icmp .ne 7, 3) := by decide +kernel
theorem dX7_least_10 : decode cX7_least 10 = .ok (.iconst 1, 1) := by decide +kernel
theorem dX7_least_11 : decode cX7_least 11 = .ok (.goto 4, 3) := by decide +kernel
theorem dX7_least_14 : decode cX7_least 14 = .ok (.iconst 0, 1) := by decide +kernel
theorem dX7_least_15 : decode cX7_least 15 = .ok (.ireturn, 1) := by decide +kernel
theorem dX7_most_0 : decode cX7_most 0 = .ok (.iload_n 0, 1) := by decide +kernel
theorem dX7_most_1 : decode cX7_most 1 = .ok (.tableswitch 55 0 6 #[43, 46, 49, 52, 49, 55, 46], 43) := by decide +kernel
theorem dX7_most_44 : decode cX7_most 44 = .ok (.bipush 100, 2) := by decide +kernel
theorem dX7_most_46 : decode cX7_most 46 = .ok (.ireturn, 1) := by decide +kernel
theorem dX7_most_47 : decode cX7_most 47 = .ok (.bipush 31, 2) := by decide +kernel
theorem dX7_most_49 : decode cX7_most 49 = .ok (.ireturn, 1) := by decide +kernel
theorem dX7_most_50 : decode cX7_most 50 = .ok (.bipush 9, 2) := by decide +kernel
theorem dX7_most_52 : decode cX7_most 52 = .ok (.ireturn, 1) := by decide +kernel
theorem dX7_most_53 : decode cX7_most 53 = .ok (.bipush 8, 2) := by decide +kernel
theorem dX7_most_55 : decode cX7_most 55 = .ok (.ireturn, 1) := by decide +kernel
theorem dX7_most_56 : decode cX7_most 56 = .ok (.iconst 1, 1) := by decide +kernel
theorem dX7_most_57 : decode cX7_most 57 = .ok (.ireturn, 1) := by decide +kernel
theorem dX7_set_0 : decode cX7_set 0 = .ok (.iload_n 1, 1) := by decide +kernel
theorem dX7_set_1 : decode cX7_set 1 = .ok (.iconst 0, 1) := by decide +kernel
theorem dX7_set_2 : decode cX7_set 2 = .ok (.bipush 6, 2) := by decide +kernel
theorem dX7_set_4 : decode cX7_set 4 = .ok (.invokestatic 40, 3) := by decide +kernel
theorem dX7_set_7 : decode cX7_set 7 = .ok (.ifCond .eq 18, 3) := by decide +kernel
theorem dX7_set_10 : decode cX7_set 10 = .ok (.iload_n 2, 1) := by decide +kernel
theorem dX7_set_11 : decode cX7_set 11 = .ok (.iload_n 1, 1) := by decide +kernel
theorem dX7_set_12 : decode cX7_set 12 = .ok (.invokestatic 44, 3) := by decide +kernel
theorem dX7_set_15 : decode cX7_set 15 = .ok (.iload_n 1, 1) := by decide +kernel
theorem dX7_set_16 : decode cX7_set 16 = .ok (.invokestatic 48, 3) := by decide +kernel
theorem dX7_set_19 : decode cX7_set 19 = .ok (.invokestatic 40, 3) := by decide +kernel
theorem dX7_set_22 : decode cX7_set 22 = .ok (.ifCond .ne 6, 3) := by decide +kernel
theorem dX7_set_25 : decode cX7_set 25 = .ok (.bipush (-2), 2) := by decide +kernel
theorem dX7_set_27 : decode cX7_set 27 = .ok (.ireturn, 1) := by decide +kernel
theorem dX7_set_28 : decode cX7_set 28 = .ok (.aload_n 0, 1) := by decide +kernel
theorem dX7_set_29 : decode cX7_set 29 = .ok (.invokevirtual 51, 3) := by decide +kernel
theorem dX7_set_32 : decode cX7_set 32 = .ok (.aload_n 0, 1) := by decide +kernel
theorem dX7_set_33 : decode cX7_set 33 = .ok (.getfield 7, 3) := by decide +kernel
theorem dX7_set_36 : decode cX7_set 36 = .ok (.iload_n 1, 1) := by decide +kernel
theorem dX7_set_37 : decode cX7_set 37 = .ok (.iaload, 1) := by decide +kernel
theorem dX7_set_38 : decode cX7_set 38 = .ok (.istore_n 3, 1) := by decide +kernel
theorem dX7_set_39 : decode cX7_set 39 = .ok (.aload_n 0, 1) := by decide +kernel
theorem dX7_set_40 : decode cX7_set 40 = .ok (.getfield 7, 3) := by decide +kernel
theorem dX7_set_43 : decode cX7_set 43 = .ok (.iload_n 1, 1) := by decide +kernel
theorem dX7_set_44 : decode cX7_set 44 = .ok (.iload_n 2, 1) := by decide +kernel
theorem dX7_set_45 : decode cX7_set 45 = .ok (.iastore, 1) := by decide +kernel
theorem dX7_set_46 : decode cX7_set 46 = .ok (.iload_n 3, 1) := by decide +kernel
theorem dX7_set_47 : decode cX7_set 47 = .ok (.ireturn, 1) := by decide +kernel
theorem dX7_areSizes_0 : decode cX7_areSizes 0 = .ok (.iload_n 0, 1) := by decide +kernel
theorem dX7_areSizes_1 : decode cX7_areSizes 1 = .ok (.iconst 0, 1) := by decide +kernel
theorem dX7_areSizes_2 : decode cX7_areSizes 2 = .ok (.bipush 15, 2) := by decide +kernel
theorem dX7_areSizes_4 : decode cX7_areSizes 4 = .ok (.invokestatic 40, 3) := by decide +kernel
theorem dX7_areSizes_7 : decode cX7_areSizes 7 = .ok (.ifCond .eq 28, 3) := by decide +kernel
theorem dX7_areSizes_10 : decode cX7_areSizes 10 = .ok (.iload_n 1, 1) := by decide +kernel
theorem dX7_areSizes_11 : decode cX7_areSizes 11 = .ok (.iconst 1, 1) := by decide +kernel
theorem dX7_areSizes_12 : decode cX7_areSizes 12 = .ok (.bipush 50, 2) := by decide +kernel
theorem dX7_areSizes_14 : decode cX7_areSizes 14 = .ok (.invokestatic 40, 3) := by decide +kernel
theorem dX7_areSizes_17 : decode cX7_areSizes 17 = .ok (.ifCond .eq 18, 3) := by decide +kernel
theorem dX7_areSizes_20 : decode cX7_areSizes 20 = .ok (.iload_n 2, 1) := by decide +kernel
theorem dX7_areSizes_21 : decode cX7_areSizes 21 = .ok (.iconst 0, 1) := by decide +kernel
theorem dX7_areSizes_22 : decode cX7_areSizes 22 = .ok (.sipush 500, 3) := by decide +kernel
theorem dX7_areSizes_25 : decode cX7_areSizes 25 = .ok (.invokestatic 40, 3) := by decide +kernel
theorem dX7_areSizes_28 : decode cX7_areSizes 28 = .ok (.ifCond .eq 7, 3) := by decide +kernel
theorem dX7_areSizes_31 : decode cX7_areSizes 31 = .ok (.iconst 1, 1) := by decide +kernel
theorem dX7_areSizes_32 : decode cX7_areSizes 32 = .ok (.goto 4, 3) := by decide +kernel
theorem dX7_areSizes_35 : decode cX7_areSizes 35 = .ok (.iconst 0, 1) := by decide +kernel
theorem dX7_areSizes_36 : decode cX7_areSizes 36 = .ok (.ireturn, 1) := by decide +kernel
theorem dX7_line_0 : decode cX7_line 0 = .ok (.iload_n 1, 1) := by decide +kernel
theorem dX7_line_1 : decode cX7_line 1 = .ok (.iload_n 2, 1) := by decide +kernel
theorem dX7_line_2 : decode cX7_line 2 = .ok (.iload_n 3, 1) := by decide +kernel
theorem dX7_line_3 : decode cX7_line 3 = .ok (.invokestatic 54, 3) := by decide +kernel
theorem dX7_line_6 : decode cX7_line 6 = .ok (.ifCond .eq 13, 3) := by decide +kernel
theorem dX7_line_9 : decode cX7_line 9 = .ok (.iload 4, 2) := by decide +kernel
theorem dX7_line_11 : decode cX7_line 11 = .ok (.iconst 0, 1) := by decide +kernel
theorem dX7_line_12 : decode cX7_line 12 = .ok (.iconst 1, 1) := by decide +kernel
theorem dX7_line_13 : decode cX7_line 13 = .ok (.invokestatic 40, 3) := by decide +kernel
theorem dX7_line_16 : decode cX7_line 16 = .ok (.ifCond .ne 6, 3) := by decide +kernel
theorem dX7_line_19 : decode cX7_line 19 = .ok (.bipush (-2), 2) := by decide +kernel
theorem dX7_line_21 : decode cX7_line 21 = .ok (.ireturn, 1) := by decide +kernel
theorem dX7_line_22 : decode cX7_line 22 = .ok (.aload_n 0, 1) := by decide +kernel
theorem dX7_line_23 : decode cX7_line 23 = .ok (.getfield 7, 3) := by decide +kernel
theorem dX7_line_26 : decode cX7_line 26 = .ok (.bipush 8, 2) := by decide +kernel
theorem dX7_line_28 : decode cX7_line 28 = .ok (.iaload, 1) := by decide +kernel
theorem dX7_line_29 : decode cX7_line 29 = .ok (.bipush 12, 2) := by decide +kernel
theorem dX7_line_31 : decode cX7_line 31 = .ok (.if_icmp .ne 6, 3) := by decide +kernel
theorem dX7_line_34 : decode cX7_line 34 = .ok (.bipush (-4), 2) := by decide +kernel
theorem dX7_line_36 : decode cX7_line 36 = .ok (.ireturn, 1) := by decide +kernel
theorem dX7_line_37 : decode cX7_line 37 = .ok (.aload_n 0, 1) := by decide +kernel
theorem dX7_line_38 : decode cX7_line 38 = .ok (.invokevirtual 51, 3) := by decide +kernel
theorem dX7_line_41 : decode cX7_line 41 = .ok (.bipush 20, 2) := by decide +kernel
theorem dX7_line_43 : decode cX7_line 43 = .ok (.bipush 16, 2) := by decide +kernel
theorem dX7_line_45 : decode cX7_line 45 = .ok (.aload_n 0, 1) := by decide +kernel
theorem dX7_line_46 : decode cX7_line 46 = .ok (.getfield 7, 3) := by decide +kernel
theorem dX7_line_49 : decode cX7_line 49 = .ok (.bipush 8, 2) := by decide +kernel
theorem dX7_line_51 : decode cX7_line 51 = .ok (.iaload, 1) := by decide +kernel
theorem dX7_line_52 : decode cX7_line 52 = .ok (.imul, 1) := by decide +kernel
theorem dX7_line_53 : decode cX7_line 53 = .ok (.iadd, 1) := by decide +kernel
theorem dX7_line_54 : decode cX7_line 54 = .ok (.istore 5, 2) := by decide +kernel
theorem dX7_line_56 : decode cX7_line 56 = .ok (.aload_n 0, 1) := by decide +kernel
theorem dX7_line_57 : decode cX7_line 57 = .ok (.getfield 7, 3) := by decide +kernel
theorem dX7_line_60 : decode cX7_line 60 = .ok (.iload 5, 2) := by decide +kernel
theorem dX7_line_62 : decode cX7_line 62 = .ok (.iconst 0, 1) := by decide +kernel
theorem dX7_line_63 : decode cX7_line 63 = .ok (.iadd, 1) := by decide +kernel
theorem dX7_line_64 : decode cX7_line 64 = .ok (.iload_n 1, 1) := by decide +kernel
theorem dX7_line_65 : decode cX7_line 65 = .ok (.iastore, 1) := by decide +kernel
theorem dX7_line_66 : decode cX7_line 66 = .ok (.aload_n 0, 1) := by decide +kernel
theorem dX7_line_67 : decode cX7_line 67 = .ok (.getfield 7, 3) := by decide +kernel
theorem dX7_line_70 : decode cX7_line 70 = .ok (.iload 5, 2) := by decide +kernel
theorem dX7_line_72 : decode cX7_line 72 = .ok (.iconst 1, 1) := by decide +kernel
theorem dX7_line_73 : decode cX7_line 73 = .ok (.iadd, 1) := by decide +kernel
theorem dX7_line_74 : decode cX7_line 74 = .ok (.iload_n 2, 1) := by decide +kernel
theorem dX7_line_75 : decode cX7_line 75 = .ok (.iastore, 1) := by decide +kernel
theorem dX7_line_76 : decode cX7_line 76 = .ok (.aload_n 0, 1) := by decide +kernel
theorem dX7_line_77 : decode cX7_line 77 = .ok (.getfield 7, 3) := by decide +kernel
theorem dX7_line_80 : decode cX7_line 80 = .ok (.iload 5, 2) := by decide +kernel
theorem dX7_line_82 : decode cX7_line 82 = .ok (.iconst 2, 1) := by decide +kernel
theorem dX7_line_83 : decode cX7_line 83 = .ok (.iadd, 1) := by decide +kernel
theorem dX7_line_84 : decode cX7_line 84 = .ok (.iload_n 3, 1) := by decide +kernel
theorem dX7_line_85 : decode cX7_line 85 = .ok (.iastore, 1) := by decide +kernel
theorem dX7_line_86 : decode cX7_line 86 = .ok (.aload_n 0, 1) := by decide +kernel
theorem dX7_line_87 : decode cX7_line 87 = .ok (.getfield 7, 3) := by decide +kernel
theorem dX7_line_90 : decode cX7_line 90 = .ok (.iload 5, 2) := by decide +kernel
theorem dX7_line_92 : decode cX7_line 92 = .ok (.iconst 3, 1) := by decide +kernel
theorem dX7_line_93 : decode cX7_line 93 = .ok (.iadd, 1) := by decide +kernel
theorem dX7_line_94 : decode cX7_line 94 = .ok (.iload 4, 2) := by decide +kernel
theorem dX7_line_96 : decode cX7_line 96 = .ok (.iastore, 1) := by decide +kernel
theorem dX7_line_97 : decode cX7_line 97 = .ok (.aload_n 0, 1) := by decide +kernel
theorem dX7_line_98 : decode cX7_line 98 = .ok (.getfield 7, 3) := by decide +kernel
theorem dX7_line_101 : decode cX7_line 101 = .ok (.bipush 8, 2) := by decide +kernel
theorem dX7_line_103 : decode cX7_line 103 = .ok (.dup2, 1) := by decide +kernel
theorem dX7_line_104 : decode cX7_line 104 = .ok (.iaload, 1) := by decide +kernel
theorem dX7_line_105 : decode cX7_line 105 = .ok (.iconst 1, 1) := by decide +kernel
theorem dX7_line_106 : decode cX7_line 106 = .ok (.iadd, 1) := by decide +kernel
theorem dX7_line_107 : decode cX7_line 107 = .ok (.iastore, 1) := by decide +kernel
theorem dX7_line_108 : decode cX7_line 108 = .ok (.aload_n 0, 1) := by decide +kernel
theorem dX7_line_109 : decode cX7_line 109 = .ok (.getfield 7, 3) := by decide +kernel
theorem dX7_line_112 : decode cX7_line 112 = .ok (.bipush 8, 2) := by decide +kernel
theorem dX7_line_114 : decode cX7_line 114 = .ok (.iaload, 1) := by decide +kernel
theorem dX7_line_115 : decode cX7_line 115 = .ok (.iconst 1, 1) := by decide +kernel
theorem dX7_line_116 : decode cX7_line 116 = .ok (.isub, 1) := by decide +kernel
theorem dX7_line_117 : decode cX7_line 117 = .ok (.ireturn, 1) := by decide +kernel
theorem dX7_isLine_0 : decode cX7_isLine 0 = .ok (.iload_n 1, 1) := by decide +kernel
theorem dX7_isLine_1 : decode cX7_isLine 1 = .ok (.iconst 0, 1) := by decide +kernel
theorem dX7_isLine_2 : decode cX7_isLine 2 = .ok (.aload_n 0, 1) := by decide +kernel
theorem dX7_isLine_3 : decode cX7_isLine 3 = .ok (.getfield 7, 3) := by decide +kernel
theorem dX7_isLine_6 : decode cX7_isLine 6 = .ok (.bipush 8, 2) := by decide +kernel
theorem dX7_isLine_8 : decode cX7_isLine 8 = .ok (.iaload, 1) := by decide +kernel
theorem dX7_isLine_9 : decode cX7_isLine 9 = .ok (.iconst 1, 1) := by decide +kernel
theorem dX7_isLine_10 : decode cX7_isLine 10 = .ok (.isub, 1) := by decide +kernel
theorem dX7_isLine_11 : decode cX7_isLine 11 = .ok (.invokestatic 40, 3) := by decide +kernel
theorem dX7_isLine_14 : decode cX7_isLine 14 = .ok (.ireturn, 1) := by decide +kernel
theorem dX7_of_0 : decode cX7_of 0 = .ok (.aload_n 0, 1) := by decide +kernel
theorem dX7_of_1 : decode cX7_of 1 = .ok (.getfield 7, 3) := by decide +kernel
theorem dX7_of_4 : decode cX7_of 4 = .ok (.bipush 20, 2) := by decide +kernel
theorem dX7_of_6 : decode cX7_of 6 = .ok (.bipush 16, 2) := by decide +kernel
theorem dX7_of_8 : decode cX7_of 8 = .ok (.iload_n 1, 1) := by decide +kernel
theorem dX7_of_9 : decode cX7_of 9 = .ok (.imul, 1) := by decide +kernel
theorem dX7_of_10 : decode cX7_of 10 = .ok (.iadd, 1) := by decide +kernel
theorem dX7_of_11 : decode cX7_of 11 = .ok (.iload_n 2, 1) := by decide +kernel
theorem dX7_of_12 : decode cX7_of 12 = .ok (.iadd, 1) := by decide +kernel
theorem dX7_of_13 : decode cX7_of 13 = .ok (.iaload, 1) := by decide +kernel
theorem dX7_of_14 : decode cX7_of 14 = .ok (.ireturn, 1) := by decide +kernel
theorem dX7_book_0 : decode cX7_book 0 = .ok (.bipush 20, 2) := by decide +kernel
theorem dX7_book_2 : decode cX7_book 2 = .ok (.bipush 16, 2) := by decide +kernel
theorem dX7_book_4 : decode cX7_book 4 = .ok (.iload_n 1, 1) := by decide +kernel
theorem dX7_book_5 : decode cX7_book 5 = .ok (.imul, 1) := by decide +kernel
theorem dX7_book_6 : decode cX7_book 6 = .ok (.iadd, 1) := by decide +kernel
theorem dX7_book_7 : decode cX7_book 7 = .ok (.iload_n 2, 1) := by decide +kernel
theorem dX7_book_8 : decode cX7_book 8 = .ok (.iadd, 1) := by decide +kernel
theorem dX7_book_9 : decode cX7_book 9 = .ok (.istore 5, 2) := by decide +kernel
theorem dX7_book_11 : decode cX7_book 11 = .ok (.aload_n 0, 1) := by decide +kernel
theorem dX7_book_12 : decode cX7_book 12 = .ok (.getfield 7, 3) := by decide +kernel
theorem dX7_book_15 : decode cX7_book 15 = .ok (.iload 5, 2) := by decide +kernel
theorem dX7_book_17 : decode cX7_book 17 = .ok (.iload 4, 2) := by decide +kernel
theorem dX7_book_19 : decode cX7_book 19 = .ok (.ifCond .eq 15, 3) := by decide +kernel
theorem dX7_book_22 : decode cX7_book 22 = .ok (.aload_n 0, 1) := by decide +kernel
theorem dX7_book_23 : decode cX7_book 23 = .ok (.getfield 7, 3) := by decide +kernel
theorem dX7_book_26 : decode cX7_book 26 = .ok (.iload 5, 2) := by decide +kernel
theorem dX7_book_28 : decode cX7_book 28 = .ok (.iaload, 1) := by decide +kernel
theorem dX7_book_29 : decode cX7_book 29 = .ok (.iload_n 3, 1) := by decide +kernel
theorem dX7_book_30 : decode cX7_book 30 = .ok (.iadd, 1) := by decide +kernel
theorem dX7_book_31 : decode cX7_book 31 = .ok (.goto 4, 3) := by decide +kernel
theorem dX7_book_34 : decode cX7_book 34 = .ok (.iload_n 3, 1) := by decide +kernel
theorem dX7_book_35 : decode cX7_book 35 = .ok (.iastore, 1) := by decide +kernel
theorem dX7_book_36 : decode cX7_book 36 = .ok (.return_, 1) := by decide +kernel
theorem dX7_timer_0 : decode cX7_timer 0 = .ok (.aload_n 0, 1) := by decide +kernel
theorem dX7_timer_1 : decode cX7_timer 1 = .ok (.iload_n 1, 1) := by decide +kernel
theorem dX7_timer_2 : decode cX7_timer 2 = .ok (.invokevirtual 57, 3) := by decide +kernel
theorem dX7_timer_5 : decode cX7_timer 5 = .ok (.ifCond .ne 5, 3) := by decide +kernel
theorem dX7_timer_8 : decode cX7_timer 8 = .ok (.iconst (-1), 1) := by decide +kernel
theorem dX7_timer_9 : decode cX7_timer 9 = .ok (.ireturn, 1) := by decide +kernel
theorem dX7_timer_10 : decode cX7_timer 10 = .ok (.iload_n 2, 1) := by decide +kernel
theorem dX7_timer_11 : decode cX7_timer 11 = .ok (.iconst 1, 1) := by decide +kernel
theorem dX7_timer_12 : decode cX7_timer 12 = .ok (.sipush 200, 3) := by decide +kernel
theorem dX7_timer_15 : decode cX7_timer 15 = .ok (.invokestatic 40, 3) := by decide +kernel
theorem dX7_timer_18 : decode cX7_timer 18 = .ok (.ifCond .eq 28, 3) := by decide +kernel
theorem dX7_timer_21 : decode cX7_timer 21 = .ok (.iload_n 3, 1) := by decide +kernel
theorem dX7_timer_22 : decode cX7_timer 22 = .ok (.aload_n 0, 1) := by decide +kernel
theorem dX7_timer_23 : decode cX7_timer 23 = .ok (.getfield 7, 3) := by decide +kernel
theorem dX7_timer_26 : decode cX7_timer 26 = .ok (.bipush 7, 2) := by decide +kernel
theorem dX7_timer_28 : decode cX7_timer 28 = .ok (.iaload, 1) := by decide +kernel
theorem dX7_timer_29 : decode cX7_timer 29 = .ok (.aload_n 0, 1) := by decide +kernel
theorem dX7_timer_30 : decode cX7_timer 30 = .ok (.getfield 7, 3) := by decide +kernel
theorem dX7_timer_33 : decode cX7_timer 33 = .ok (.bipush 7, 2) := by decide +kernel
theorem dX7_timer_35 : decode cX7_timer 35 = .ok (.iaload, 1) := by decide +kernel
theorem dX7_timer_36 : decode cX7_timer 36 = .ok (.sipush 500, 3) := by decide +kernel
theorem dX7_timer_39 : decode cX7_timer 39 = .ok (.iadd, 1) := by decide +kernel
theorem dX7_timer_40 : decode cX7_timer 40 = .ok (.invokestatic 40, 3) := by decide +kernel
theorem dX7_timer_43 : decode cX7_timer 43 = .ok (.ifCond .ne 6, 3) := by decide +kernel
theorem dX7_timer_46 : decode cX7_timer 46 = .ok (.bipush (-2), 2) := by decide +kernel
theorem dX7_timer_48 : decode cX7_timer 48 = .ok (.ireturn, 1) := by decide +kernel
theorem dX7_timer_49 : decode cX7_timer 49 = .ok (.aload_n 0, 1) := by decide +kernel
theorem dX7_timer_50 : decode cX7_timer 50 = .ok (.getfield 7, 3) := by decide +kernel
theorem dX7_timer_53 : decode cX7_timer 53 = .ok (.bipush 9, 2) := by decide +kernel
theorem dX7_timer_55 : decode cX7_timer 55 = .ok (.iaload, 1) := by decide +kernel
theorem dX7_timer_56 : decode cX7_timer 56 = .ok (.bipush 6, 2) := by decide +kernel
theorem dX7_timer_58 : decode cX7_timer 58 = .ok (.if_icmp .ne 6, 3) := by decide +kernel
theorem dX7_timer_61 : decode cX7_timer 61 = .ok (.bipush (-4), 2) := by decide +kernel
theorem dX7_timer_63 : decode cX7_timer 63 = .ok (.ireturn, 1) := by decide +kernel
theorem dX7_timer_64 : decode cX7_timer 64 = .ok (.aload_n 0, 1) := by decide +kernel
theorem dX7_timer_65 : decode cX7_timer 65 = .ok (.iload_n 1, 1) := by decide +kernel
theorem dX7_timer_66 : decode cX7_timer 66 = .ok (.iconst 3, 1) := by decide +kernel
theorem dX7_timer_67 : decode cX7_timer 67 = .ok (.invokevirtual 61, 3) := by decide +kernel
theorem dX7_timer_70 : decode cX7_timer 70 = .ok (.iconst 1, 1) := by decide +kernel
theorem dX7_timer_71 : decode cX7_timer 71 = .ok (.if_icmp .ne 6, 3) := by decide +kernel
theorem dX7_timer_74 : decode cX7_timer 74 = .ok (.bipush (-5), 2) := by decide +kernel
theorem dX7_timer_76 : decode cX7_timer 76 = .ok (.ireturn, 1) := by decide +kernel
theorem dX7_timer_77 : decode cX7_timer 77 = .ok (.aload_n 0, 1) := by decide +kernel
theorem dX7_timer_78 : decode cX7_timer 78 = .ok (.invokevirtual 51, 3) := by decide +kernel
theorem dX7_timer_81 : decode cX7_timer 81 = .ok (.sipush 260, 3) := by decide +kernel
theorem dX7_timer_84 : decode cX7_timer 84 = .ok (.iconst 3, 1) := by decide +kernel
theorem dX7_timer_85 : decode cX7_timer 85 = .ok (.aload_n 0, 1) := by decide +kernel
theorem dX7_timer_86 : decode cX7_timer 86 = .ok (.getfield 7, 3) := by decide +kernel
theorem dX7_timer_89 : decode cX7_timer 89 = .ok (.bipush 9, 2) := by decide +kernel
theorem dX7_timer_91 : decode cX7_timer 91 = .ok (.iaload, 1) := by decide +kernel
theorem dX7_timer_92 : decode cX7_timer 92 = .ok (.imul, 1) := by decide +kernel
theorem dX7_timer_93 : decode cX7_timer 93 = .ok (.iadd, 1) := by decide +kernel
theorem dX7_timer_94 : decode cX7_timer 94 = .ok (.istore 4, 2) := by decide +kernel
theorem dX7_timer_96 : decode cX7_timer 96 = .ok (.aload_n 0, 1) := by decide +kernel
theorem dX7_timer_97 : decode cX7_timer 97 = .ok (.getfield 7, 3) := by decide +kernel
theorem dX7_timer_100 : decode cX7_timer 100 = .ok (.iload 4, 2) := by decide +kernel
theorem dX7_timer_102 : decode cX7_timer 102 = .ok (.iload_n 1, 1) := by decide +kernel
theorem dX7_timer_103 : decode cX7_timer 103 = .ok (.iastore, 1) := by decide +kernel
theorem dX7_timer_104 : decode cX7_timer 104 = .ok (.aload_n 0, 1) := by decide +kernel
theorem dX7_timer_105 : decode cX7_timer 105 = .ok (.getfield 7, 3) := by decide +kernel
theorem dX7_timer_108 : decode cX7_timer 108 = .ok (.iload 4, 2) := by decide +kernel
theorem dX7_timer_110 : decode cX7_timer 110 = .ok (.iconst 1, 1) := by decide +kernel
theorem dX7_timer_111 : decode cX7_timer 111 = .ok (.iadd, 1) := by decide +kernel
theorem dX7_timer_112 : decode cX7_timer 112 = .ok (.iload_n 2, 1) := by decide +kernel
theorem dX7_timer_113 : decode cX7_timer 113 = .ok (.iastore, 1) := by decide +kernel
theorem dX7_timer_114 : decode cX7_timer 114 = .ok (.aload_n 0, 1) := by decide +kernel
theorem dX7_timer_115 : decode cX7_timer 115 = .ok (.getfield 7, 3) := by decide +kernel
theorem dX7_timer_118 : decode cX7_timer 118 = .ok (.iload 4, 2) := by decide +kernel
theorem dX7_timer_120 : decode cX7_timer 120 = .ok (.iconst 2, 1) := by decide +kernel
theorem dX7_timer_121 : decode cX7_timer 121 = .ok (.iadd, 1) := by decide +kernel
theorem dX7_timer_122 : decode cX7_timer 122 = .ok (.iload_n 3, 1) := by decide +kernel
theorem dX7_timer_123 : decode cX7_timer 123 = .ok (.iastore, 1) := by decide +kernel
theorem dX7_timer_124 : decode cX7_timer 124 = .ok (.aload_n 0, 1) := by decide +kernel
theorem dX7_timer_125 : decode cX7_timer 125 = .ok (.getfield 7, 3) := by decide +kernel
theorem dX7_timer_128 : decode cX7_timer 128 = .ok (.bipush 9, 2) := by decide +kernel
theorem dX7_timer_130 : decode cX7_timer 130 = .ok (.dup2, 1) := by decide +kernel
theorem dX7_timer_131 : decode cX7_timer 131 = .ok (.iaload, 1) := by decide +kernel
theorem dX7_timer_132 : decode cX7_timer 132 = .ok (.iconst 1, 1) := by decide +kernel
theorem dX7_timer_133 : decode cX7_timer 133 = .ok (.iadd, 1) := by decide +kernel
theorem dX7_timer_134 : decode cX7_timer 134 = .ok (.iastore, 1) := by decide +kernel
theorem dX7_timer_135 : decode cX7_timer 135 = .ok (.aload_n 0, 1) := by decide +kernel
theorem dX7_timer_136 : decode cX7_timer 136 = .ok (.getfield 7, 3) := by decide +kernel
theorem dX7_timer_139 : decode cX7_timer 139 = .ok (.bipush 9, 2) := by decide +kernel
theorem dX7_timer_141 : decode cX7_timer 141 = .ok (.iaload, 1) := by decide +kernel
theorem dX7_timer_142 : decode cX7_timer 142 = .ok (.iconst 1, 1) := by decide +kernel
theorem dX7_timer_143 : decode cX7_timer 143 = .ok (.isub, 1) := by decide +kernel
theorem dX7_timer_144 : decode cX7_timer 144 = .ok (.ireturn, 1) := by decide +kernel
theorem dX7_stop_0 : decode cX7_stop 0 = .ok (.iload_n 1, 1) := by decide +kernel
theorem dX7_stop_1 : decode cX7_stop 1 = .ok (.iconst 0, 1) := by decide +kernel
theorem dX7_stop_2 : decode cX7_stop 2 = .ok (.aload_n 0, 1) := by decide +kernel
theorem dX7_stop_3 : decode cX7_stop 3 = .ok (.getfield 7, 3) := by decide +kernel
theorem dX7_stop_6 : decode cX7_stop 6 = .ok (.bipush 9, 2) := by decide +kernel
theorem dX7_stop_8 : decode cX7_stop 8 = .ok (.iaload, 1) := by decide +kernel
theorem dX7_stop_9 : decode cX7_stop 9 = .ok (.iconst 1, 1) := by decide +kernel
theorem dX7_stop_10 : decode cX7_stop 10 = .ok (.isub, 1) := by decide +kernel
theorem dX7_stop_11 : decode cX7_stop 11 = .ok (.invokestatic 40, 3) := by decide +kernel
theorem dX7_stop_14 : decode cX7_stop 14 = .ok (.ifCond .ne 5, 3) := by decide +kernel
theorem dX7_stop_17 : decode cX7_stop 17 = .ok (.iconst (-1), 1) := by decide +kernel
theorem dX7_stop_18 : decode cX7_stop 18 = .ok (.ireturn, 1) := by decide +kernel
theorem dX7_stop_19 : decode cX7_stop 19 = .ok (.aload_n 0, 1) := by decide +kernel
theorem dX7_stop_20 : decode cX7_stop 20 = .ok (.invokevirtual 51, 3) := by decide +kernel
theorem dX7_stop_23 : decode cX7_stop 23 = .ok (.aload_n 0, 1) := by decide +kernel
theorem dX7_stop_24 : decode cX7_stop 24 = .ok (.getfield 7, 3) := by decide +kernel
theorem dX7_stop_27 : decode cX7_stop 27 = .ok (.bipush 9, 2) := by decide +kernel
theorem dX7_stop_29 : decode cX7_stop 29 = .ok (.dup2, 1) := by decide +kernel
theorem dX7_stop_30 : decode cX7_stop 30 = .ok (.iaload, 1) := by decide +kernel
theorem dX7_stop_31 : decode cX7_stop 31 = .ok (.iconst 1, 1) := by decide +kernel
theorem dX7_stop_32 : decode cX7_stop 32 = .ok (.isub, 1) := by decide +kernel
theorem dX7_stop_33 : decode cX7_stop 33 = .ok (.iastore, 1) := by decide +kernel
theorem dX7_stop_34 : decode cX7_stop 34 = .ok (.sipush 260, 3) := by decide +kernel
theorem dX7_stop_37 : decode cX7_stop 37 = .ok (.iconst 3, 1) := by decide +kernel
theorem dX7_stop_38 : decode cX7_stop 38 = .ok (.iload_n 1, 1) := by decide +kernel
theorem dX7_stop_39 : decode cX7_stop 39 = .ok (.imul, 1) := by decide +kernel
theorem dX7_stop_40 : decode cX7_stop 40 = .ok (.iadd, 1) := by decide +kernel
theorem dX7_stop_41 : decode cX7_stop 41 = .ok (.istore_n 2, 1) := by decide +kernel
theorem dX7_stop_42 : decode cX7_stop 42 = .ok (.iload_n 2, 1) := by decide +kernel
theorem dX7_stop_43 : decode cX7_stop 43 = .ok (.sipush 260, 3) := by decide +kernel
theorem dX7_stop_46 : decode cX7_stop 46 = .ok (.iconst 3, 1) := by decide +kernel
theorem dX7_stop_47 : decode cX7_stop 47 = .ok (.aload_n 0, 1) := by decide +kernel
theorem dX7_stop_48 : decode cX7_stop 48 = .ok (.getfield 7, 3) := by decide +kernel
theorem dX7_stop_51 : decode cX7_stop 51 = .ok (.bipush 9, 2) := by decide +kernel
theorem dX7_stop_53 : decode cX7_stop 53 = .ok (.iaload, 1) := by decide +kernel
theorem dX7_stop_54 : decode cX7_stop 54 = .ok (.imul, 1) := by decide +kernel
theorem dX7_stop_55 : decode cX7_stop 55 = .ok (.iadd, 1) := by decide +kernel
theorem dX7_stop_56 : decode cX7_stop 56 = .ok (.if_icmp .ge 23, 3) := by decide +kernel
theorem dX7_stop_59 : decode cX7_stop 59 = .ok (.aload_n 0, 1) := by decide +kernel
theorem dX7_stop_60 : decode cX7_stop 60 = .ok (.getfield 7, 3) := by decide +kernel
theorem dX7_stop_63 : decode cX7_stop 63 = .ok (.iload_n 2, 1) := by decide +kernel
theorem dX7_stop_64 : decode cX7_stop 64 = .ok (.aload_n 0, 1) := by decide +kernel
theorem dX7_stop_65 : decode cX7_stop 65 = .ok (.getfield 7, 3) := by decide +kernel
theorem dX7_stop_68 : decode cX7_stop 68 = .ok (.iload_n 2, 1) := by decide +kernel
theorem dX7_stop_69 : decode cX7_stop 69 = .ok (.iconst 3, 1) := by decide +kernel
theorem dX7_stop_70 : decode cX7_stop 70 = .ok (.iadd, 1) := by decide +kernel
theorem dX7_stop_71 : decode cX7_stop 71 = .ok (.iaload, 1) := by decide +kernel
theorem dX7_stop_72 : decode cX7_stop 72 = .ok (.iastore, 1) := by decide +kernel
theorem dX7_stop_73 : decode cX7_stop 73 = .ok (.iinc 2 1, 3) := by decide +kernel
theorem dX7_stop_76 : decode cX7_stop 76 = .ok (.goto (-34), 3) := by decide +kernel
theorem dX7_stop_79 : decode cX7_stop 79 = .ok (.aload_n 0, 1) := by decide +kernel
theorem dX7_stop_80 : decode cX7_stop 80 = .ok (.getfield 7, 3) := by decide +kernel
theorem dX7_stop_83 : decode cX7_stop 83 = .ok (.bipush 9, 2) := by decide +kernel
theorem dX7_stop_85 : decode cX7_stop 85 = .ok (.iaload, 1) := by decide +kernel
theorem dX7_stop_86 : decode cX7_stop 86 = .ok (.ireturn, 1) := by decide +kernel
theorem dX7_waits_0 : decode cX7_waits 0 = .ok (.aload_n 0, 1) := by decide +kernel
theorem dX7_waits_1 : decode cX7_waits 1 = .ok (.iload_n 1, 1) := by decide +kernel
theorem dX7_waits_2 : decode cX7_waits 2 = .ok (.iconst 5, 1) := by decide +kernel
theorem dX7_waits_3 : decode cX7_waits 3 = .ok (.invokevirtual 61, 3) := by decide +kernel
theorem dX7_waits_6 : decode cX7_waits 6 = .ok (.iconst 1, 1) := by decide +kernel
theorem dX7_waits_7 : decode cX7_waits 7 = .ok (.if_icmp .ne 7, 3) := by decide +kernel
theorem dX7_waits_10 : decode cX7_waits 10 = .ok (.iconst 1, 1) := by decide +kernel
theorem dX7_waits_11 : decode cX7_waits 11 = .ok (.goto 4, 3) := by decide +kernel
theorem dX7_waits_14 : decode cX7_waits 14 = .ok (.iconst 0, 1) := by decide +kernel
theorem dX7_waits_15 : decode cX7_waits 15 = .ok (.ireturn, 1) := by decide +kernel
theorem dX7_turn_0 : decode cX7_turn 0 = .ok (.aload_n 0, 1) := by decide +kernel
theorem dX7_turn_1 : decode cX7_turn 1 = .ok (.iload_n 1, 1) := by decide +kernel
theorem dX7_turn_2 : decode cX7_turn 2 = .ok (.iconst 5, 1) := by decide +kernel
theorem dX7_turn_3 : decode cX7_turn 3 = .ok (.iload_n 2, 1) := by decide +kernel
theorem dX7_turn_4 : decode cX7_turn 4 = .ok (.iconst 0, 1) := by decide +kernel
theorem dX7_turn_5 : decode cX7_turn 5 = .ok (.invokevirtual 65, 3) := by decide +kernel
theorem dX7_turn_8 : decode cX7_turn 8 = .ok (.aload_n 0, 1) := by decide +kernel
theorem dX7_turn_9 : decode cX7_turn 9 = .ok (.iload_n 1, 1) := by decide +kernel
theorem dX7_turn_10 : decode cX7_turn 10 = .ok (.bipush 6, 2) := by decide +kernel
theorem dX7_turn_12 : decode cX7_turn 12 = .ok (.iconst 0, 1) := by decide +kernel
theorem dX7_turn_13 : decode cX7_turn 13 = .ok (.iconst 0, 1) := by decide +kernel
theorem dX7_turn_14 : decode cX7_turn 14 = .ok (.invokevirtual 65, 3) := by decide +kernel
theorem dX7_turn_17 : decode cX7_turn 17 = .ok (.return_, 1) := by decide +kernel
theorem dX7_edge_0 : decode cX7_edge 0 = .ok (.aload_n 0, 1) := by decide +kernel
theorem dX7_edge_1 : decode cX7_edge 1 = .ok (.iload_n 1, 1) := by decide +kernel
theorem dX7_edge_2 : decode cX7_edge 2 = .ok (.bipush 8, 2) := by decide +kernel
theorem dX7_edge_4 : decode cX7_edge 4 = .ok (.iconst 1, 1) := by decide +kernel
theorem dX7_edge_5 : decode cX7_edge 5 = .ok (.iconst 1, 1) := by decide +kernel
theorem dX7_edge_6 : decode cX7_edge 6 = .ok (.invokevirtual 65, 3) := by decide +kernel
theorem dX7_edge_9 : decode cX7_edge 9 = .ok (.aload_n 0, 1) := by decide +kernel
theorem dX7_edge_10 : decode cX7_edge 10 = .ok (.iload_n 1, 1) := by decide +kernel
theorem dX7_edge_11 : decode cX7_edge 11 = .ok (.invokevirtual 69, 3) := by decide +kernel
theorem dX7_edge_14 : decode cX7_edge 14 = .ok (.ifCond .ne 22, 3) := by decide +kernel
theorem dX7_edge_17 : decode cX7_edge 17 = .ok (.aload_n 0, 1) := by decide +kernel
theorem dX7_edge_18 : decode cX7_edge 18 = .ok (.iload_n 1, 1) := by decide +kernel
theorem dX7_edge_19 : decode cX7_edge 19 = .ok (.iconst 4, 1) := by decide +kernel
theorem dX7_edge_20 : decode cX7_edge 20 = .ok (.invokevirtual 61, 3) := by decide +kernel
theorem dX7_edge_23 : decode cX7_edge 23 = .ok (.iconst 1, 1) := by decide +kernel
theorem dX7_edge_24 : decode cX7_edge 24 = .ok (.if_icmp .ne 23, 3) := by decide +kernel
theorem dX7_edge_27 : decode cX7_edge 27 = .ok (.aload_n 0, 1) := by decide +kernel
theorem dX7_edge_28 : decode cX7_edge 28 = .ok (.getfield 7, 3) := by decide +kernel
theorem dX7_edge_31 : decode cX7_edge 31 = .ok (.iconst 5, 1) := by decide +kernel
theorem dX7_edge_32 : decode cX7_edge 32 = .ok (.iaload, 1) := by decide +kernel
theorem dX7_edge_33 : decode cX7_edge 33 = .ok (.ifCond .ne 14, 3) := by decide +kernel
theorem dX7_edge_36 : decode cX7_edge 36 = .ok (.aload_n 0, 1) := by decide +kernel
theorem dX7_edge_37 : decode cX7_edge 37 = .ok (.iload_n 1, 1) := by decide +kernel
theorem dX7_edge_38 : decode cX7_edge 38 = .ok (.bipush 9, 2) := by decide +kernel
theorem dX7_edge_40 : decode cX7_edge 40 = .ok (.iconst 1, 1) := by decide +kernel
theorem dX7_edge_41 : decode cX7_edge 41 = .ok (.iconst 1, 1) := by decide +kernel
theorem dX7_edge_42 : decode cX7_edge 42 = .ok (.invokevirtual 65, 3) := by decide +kernel
theorem dX7_edge_45 : decode cX7_edge 45 = .ok (.iconst 0, 1) := by decide +kernel
theorem dX7_edge_46 : decode cX7_edge 46 = .ok (.ireturn, 1) := by decide +kernel
theorem dX7_edge_47 : decode cX7_edge 47 = .ok (.aload_n 0, 1) := by decide +kernel
theorem dX7_edge_48 : decode cX7_edge 48 = .ok (.iload_n 1, 1) := by decide +kernel
theorem dX7_edge_49 : decode cX7_edge 49 = .ok (.iconst 1, 1) := by decide +kernel
theorem dX7_edge_50 : decode cX7_edge 50 = .ok (.invokevirtual 72, 3) := by decide +kernel
theorem dX7_edge_53 : decode cX7_edge 53 = .ok (.iconst 1, 1) := by decide +kernel
theorem dX7_edge_54 : decode cX7_edge 54 = .ok (.ireturn, 1) := by decide +kernel
theorem dX7_raise_0 : decode cX7_raise 0 = .ok (.aload_n 0, 1) := by decide +kernel
theorem dX7_raise_1 : decode cX7_raise 1 = .ok (.iload_n 1, 1) := by decide +kernel
theorem dX7_raise_2 : decode cX7_raise 2 = .ok (.invokevirtual 57, 3) := by decide +kernel
theorem dX7_raise_5 : decode cX7_raise 5 = .ok (.ifCond .ne 5, 3) := by decide +kernel
theorem dX7_raise_8 : decode cX7_raise 8 = .ok (.iconst (-1), 1) := by decide +kernel
theorem dX7_raise_9 : decode cX7_raise 9 = .ok (.ireturn, 1) := by decide +kernel
theorem dX7_raise_10 : decode cX7_raise 10 = .ok (.aload_n 0, 1) := by decide +kernel
theorem dX7_raise_11 : decode cX7_raise 11 = .ok (.iload_n 1, 1) := by decide +kernel
theorem dX7_raise_12 : decode cX7_raise 12 = .ok (.iconst 3, 1) := by decide +kernel
theorem dX7_raise_13 : decode cX7_raise 13 = .ok (.invokevirtual 61, 3) := by decide +kernel
theorem dX7_raise_16 : decode cX7_raise 16 = .ok (.iconst 1, 1) := by decide +kernel
theorem dX7_raise_17 : decode cX7_raise 17 = .ok (.if_icmp .ne 6, 3) := by decide +kernel
theorem dX7_raise_20 : decode cX7_raise 20 = .ok (.bipush (-5), 2) := by decide +kernel
theorem dX7_raise_22 : decode cX7_raise 22 = .ok (.ireturn, 1) := by decide +kernel
theorem dX7_raise_23 : decode cX7_raise 23 = .ok (.aload_n 0, 1) := by decide +kernel
theorem dX7_raise_24 : decode cX7_raise 24 = .ok (.invokevirtual 51, 3) := by decide +kernel
theorem dX7_raise_27 : decode cX7_raise 27 = .ok (.aload_n 0, 1) := by decide +kernel
theorem dX7_raise_28 : decode cX7_raise 28 = .ok (.iload_n 1, 1) := by decide +kernel
theorem dX7_raise_29 : decode cX7_raise 29 = .ok (.invokevirtual 76, 3) := by decide +kernel
theorem dX7_raise_32 : decode cX7_raise 32 = .ok (.ifCond .eq 7, 3) := by decide +kernel
theorem dX7_raise_35 : decode cX7_raise 35 = .ok (.iconst 1, 1) := by decide +kernel
theorem dX7_raise_36 : decode cX7_raise 36 = .ok (.goto 4, 3) := by decide +kernel
theorem dX7_raise_39 : decode cX7_raise 39 = .ok (.iconst 0, 1) := by decide +kernel
theorem dX7_raise_40 : decode cX7_raise 40 = .ok (.ireturn, 1) := by decide +kernel
theorem dX7_placeOf_0 : decode cX7_placeOf 0 = .ok (.bipush (-6), 2) := by decide +kernel
theorem dX7_placeOf_2 : decode cX7_placeOf 2 = .ok (.istore_n 2, 1) := by decide +kernel
theorem dX7_placeOf_3 : decode cX7_placeOf 3 = .ok (.iconst 0, 1) := by decide +kernel
theorem dX7_placeOf_4 : decode cX7_placeOf 4 = .ok (.istore_n 3, 1) := by decide +kernel
theorem dX7_placeOf_5 : decode cX7_placeOf 5 = .ok (.iload_n 3, 1) := by decide +kernel
theorem dX7_placeOf_6 : decode cX7_placeOf 6 = .ok (.aload_n 0, 1) := by decide +kernel
theorem dX7_placeOf_7 : decode cX7_placeOf 7 = .ok (.getfield 7, 3) := by decide +kernel
theorem dX7_placeOf_10 : decode cX7_placeOf 10 = .ok (.bipush 10, 2) := by decide +kernel
theorem dX7_placeOf_12 : decode cX7_placeOf 12 = .ok (.iaload, 1) := by decide +kernel
theorem dX7_placeOf_13 : decode cX7_placeOf 13 = .ok (.if_icmp .ge 31, 3) := by decide +kernel
theorem dX7_placeOf_16 : decode cX7_placeOf 16 = .ok (.aload_n 0, 1) := by decide +kernel
theorem dX7_placeOf_17 : decode cX7_placeOf 17 = .ok (.getfield 7, 3) := by decide +kernel
theorem dX7_placeOf_20 : decode cX7_placeOf 20 = .ok (.sipush 220, 3) := by decide +kernel
theorem dX7_placeOf_23 : decode cX7_placeOf 23 = .ok (.iconst 4, 1) := by decide +kernel
theorem dX7_placeOf_24 : decode cX7_placeOf 24 = .ok (.iload_n 3, 1) := by decide +kernel
theorem dX7_placeOf_25 : decode cX7_placeOf 25 = .ok (.imul, 1) := by decide +kernel
theorem dX7_placeOf_26 : decode cX7_placeOf 26 = .ok (.iadd, 1) := by decide +kernel
theorem dX7_placeOf_27 : decode cX7_placeOf 27 = .ok (.iaload, 1) := by decide +kernel
theorem dX7_placeOf_28 : decode cX7_placeOf 28 = .ok (.iload_n 1, 1) := by decide +kernel
theorem dX7_placeOf_29 : decode cX7_placeOf 29 = .ok (.if_icmp .ne 7, 3) := by decide +kernel
theorem dX7_placeOf_32 : decode cX7_placeOf 32 = .ok (.iload_n 3, 1) := by decide +kernel
theorem dX7_placeOf_33 : decode cX7_placeOf 33 = .ok (.goto 4, 3) := by decide +kernel
theorem dX7_placeOf_36 : decode cX7_placeOf 36 = .ok (.iload_n 2, 1) := by decide +kernel
theorem dX7_placeOf_37 : decode cX7_placeOf 37 = .ok (.istore_n 2, 1) := by decide +kernel
theorem dX7_placeOf_38 : decode cX7_placeOf 38 = .ok (.iinc 3 1, 3) := by decide +kernel
theorem dX7_placeOf_41 : decode cX7_placeOf 41 = .ok (.goto (-36), 3) := by decide +kernel
theorem dX7_placeOf_44 : decode cX7_placeOf 44 = .ok (.iload_n 2, 1) := by decide +kernel
theorem dX7_placeOf_45 : decode cX7_placeOf 45 = .ok (.ireturn, 1) := by decide +kernel
theorem dX7_look_0 : decode cX7_look 0 = .ok (.aload_n 0, 1) := by decide +kernel
theorem dX7_look_1 : decode cX7_look 1 = .ok (.iload_n 1, 1) := by decide +kernel
theorem dX7_look_2 : decode cX7_look 2 = .ok (.bipush 7, 2) := by decide +kernel
theorem dX7_look_4 : decode cX7_look 4 = .ok (.invokevirtual 61, 3) := by decide +kernel
theorem dX7_look_7 : decode cX7_look 7 = .ok (.ifCond .eq 15, 3) := by decide +kernel
theorem dX7_look_10 : decode cX7_look 10 = .ok (.aload_n 0, 1) := by decide +kernel
theorem dX7_look_11 : decode cX7_look 11 = .ok (.iload_n 1, 1) := by decide +kernel
theorem dX7_look_12 : decode cX7_look 12 = .ok (.invokevirtual 79, 3) := by decide +kernel
theorem dX7_look_15 : decode cX7_look 15 = .ok (.ifCond .ge 7, 3) := by decide +kernel
theorem dX7_look_18 : decode cX7_look 18 = .ok (.iconst 1, 1) := by decide +kernel
theorem dX7_look_19 : decode cX7_look 19 = .ok (.goto 4, 3) := by decide +kernel
theorem dX7_look_22 : decode cX7_look 22 = .ok (.iconst 0, 1) := by decide +kernel
theorem dX7_look_23 : decode cX7_look 23 = .ok (.istore_n 2, 1) := by decide +kernel
theorem dX7_look_24 : decode cX7_look 24 = .ok (.iload_n 2, 1) := by decide +kernel
theorem dX7_look_25 : decode cX7_look 25 = .ok (.aload_n 0, 1) := by decide +kernel
theorem dX7_look_26 : decode cX7_look 26 = .ok (.iload_n 1, 1) := by decide +kernel
theorem dX7_look_27 : decode cX7_look 27 = .ok (.invokevirtual 69, 3) := by decide +kernel
theorem dX7_look_30 : decode cX7_look 30 = .ok (.if_icmp .eq 17, 3) := by decide +kernel
theorem dX7_look_33 : decode cX7_look 33 = .ok (.aload_n 0, 1) := by decide +kernel
theorem dX7_look_34 : decode cX7_look 34 = .ok (.iload_n 1, 1) := by decide +kernel
theorem dX7_look_35 : decode cX7_look 35 = .ok (.iload_n 2, 1) := by decide +kernel
theorem dX7_look_36 : decode cX7_look 36 = .ok (.ifCond .eq 7, 3) := by decide +kernel
theorem dX7_look_39 : decode cX7_look 39 = .ok (.iconst 1, 1) := by decide +kernel
theorem dX7_look_40 : decode cX7_look 40 = .ok (.goto 4, 3) := by decide +kernel
theorem dX7_look_43 : decode cX7_look 43 = .ok (.iconst 0, 1) := by decide +kernel
theorem dX7_look_44 : decode cX7_look 44 = .ok (.invokevirtual 72, 3) := by decide +kernel
theorem dX7_look_47 : decode cX7_look 47 = .ok (.return_, 1) := by decide +kernel
theorem dX7_hold_0 : decode cX7_hold 0 = .ok (.aload_n 0, 1) := by decide +kernel
theorem dX7_hold_1 : decode cX7_hold 1 = .ok (.iload_n 1, 1) := by decide +kernel
theorem dX7_hold_2 : decode cX7_hold 2 = .ok (.invokevirtual 57, 3) := by decide +kernel
theorem dX7_hold_5 : decode cX7_hold 5 = .ok (.ifCond .ne 5, 3) := by decide +kernel
theorem dX7_hold_8 : decode cX7_hold 8 = .ok (.iconst (-1), 1) := by decide +kernel
theorem dX7_hold_9 : decode cX7_hold 9 = .ok (.ireturn, 1) := by decide +kernel
theorem dX7_hold_10 : decode cX7_hold 10 = .ok (.iload_n 2, 1) := by decide +kernel
theorem dX7_hold_11 : decode cX7_hold 11 = .ok (.iconst 0, 1) := by decide +kernel
theorem dX7_hold_12 : decode cX7_hold 12 = .ok (.iconst 3, 1) := by decide +kernel
theorem dX7_hold_13 : decode cX7_hold 13 = .ok (.invokestatic 40, 3) := by decide +kernel
theorem dX7_hold_16 : decode cX7_hold 16 = .ok (.ifCond .eq 12, 3) := by decide +kernel
theorem dX7_hold_19 : decode cX7_hold 19 = .ok (.iload_n 3, 1) := by decide +kernel
theorem dX7_hold_20 : decode cX7_hold 20 = .ok (.iconst 0, 1) := by decide +kernel
theorem dX7_hold_21 : decode cX7_hold 21 = .ok (.iconst 1, 1) := by decide +kernel
theorem dX7_hold_22 : decode cX7_hold 22 = .ok (.invokestatic 40, 3) := by decide +kernel
theorem dX7_hold_25 : decode cX7_hold 25 = .ok (.ifCond .ne 6, 3) := by decide +kernel
theorem dX7_hold_28 : decode cX7_hold 28 = .ok (.bipush (-2), 2) := by decide +kernel
theorem dX7_hold_30 : decode cX7_hold 30 = .ok (.ireturn, 1) := by decide +kernel
theorem dX7_hold_31 : decode cX7_hold 31 = .ok (.aload_n 0, 1) := by decide +kernel
theorem dX7_hold_32 : decode cX7_hold 32 = .ok (.iload_n 1, 1) := by decide +kernel
theorem dX7_hold_33 : decode cX7_hold 33 = .ok (.iconst 3, 1) := by decide +kernel
theorem dX7_hold_34 : decode cX7_hold 34 = .ok (.invokevirtual 61, 3) := by decide +kernel
theorem dX7_hold_37 : decode cX7_hold 37 = .ok (.ifCond .ne 6, 3) := by decide +kernel
theorem dX7_hold_40 : decode cX7_hold 40 = .ok (.bipush (-5), 2) := by decide +kernel
theorem dX7_hold_42 : decode cX7_hold 42 = .ok (.ireturn, 1) := by decide +kernel
theorem dX7_hold_43 : decode cX7_hold 43 = .ok (.aload_n 0, 1) := by decide +kernel
theorem dX7_hold_44 : decode cX7_hold 44 = .ok (.invokevirtual 51, 3) := by decide +kernel
theorem dX7_hold_47 : decode cX7_hold 47 = .ok (.aload_n 0, 1) := by decide +kernel
theorem dX7_hold_48 : decode cX7_hold 48 = .ok (.iload_n 1, 1) := by decide +kernel
theorem dX7_hold_49 : decode cX7_hold 49 = .ok (.bipush 7, 2) := by decide +kernel
theorem dX7_hold_51 : decode cX7_hold 51 = .ok (.aload_n 0, 1) := by decide +kernel
theorem dX7_hold_52 : decode cX7_hold 52 = .ok (.iload_n 1, 1) := by decide +kernel
theorem dX7_hold_53 : decode cX7_hold 53 = .ok (.bipush 7, 2) := by decide +kernel
theorem dX7_hold_55 : decode cX7_hold 55 = .ok (.invokevirtual 61, 3) := by decide +kernel
theorem dX7_hold_58 : decode cX7_hold 58 = .ok (.iconst 1, 1) := by decide +kernel
theorem dX7_hold_59 : decode cX7_hold 59 = .ok (.iload_n 2, 1) := by decide +kernel
theorem dX7_hold_60 : decode cX7_hold 60 = .ok (.ishl, 1) := by decide +kernel
theorem dX7_hold_61 : decode cX7_hold 61 = .ok (.iconst (-1), 1) := by decide +kernel
theorem dX7_hold_62 : decode cX7_hold 62 = .ok (.ixor, 1) := by decide +kernel
theorem dX7_hold_63 : decode cX7_hold 63 = .ok (.iand, 1) := by decide +kernel
theorem dX7_hold_64 : decode cX7_hold 64 = .ok (.iload_n 3, 1) := by decide +kernel
theorem dX7_hold_65 : decode cX7_hold 65 = .ok (.iload_n 2, 1) := by decide +kernel
theorem dX7_hold_66 : decode cX7_hold 66 = .ok (.ishl, 1) := by decide +kernel
theorem dX7_hold_67 : decode cX7_hold 67 = .ok (.ior, 1) := by decide +kernel
theorem dX7_hold_68 : decode cX7_hold 68 = .ok (.iconst 0, 1) := by decide +kernel
theorem dX7_hold_69 : decode cX7_hold 69 = .ok (.invokevirtual 65, 3) := by decide +kernel
theorem dX7_hold_72 : decode cX7_hold 72 = .ok (.aload_n 0, 1) := by decide +kernel
theorem dX7_hold_73 : decode cX7_hold 73 = .ok (.iload_n 1, 1) := by decide +kernel
theorem dX7_hold_74 : decode cX7_hold 74 = .ok (.invokevirtual 82, 3) := by decide +kernel
theorem dX7_hold_77 : decode cX7_hold 77 = .ok (.aload_n 0, 1) := by decide +kernel
theorem dX7_hold_78 : decode cX7_hold 78 = .ok (.iload_n 1, 1) := by decide +kernel
theorem dX7_hold_79 : decode cX7_hold 79 = .ok (.bipush 7, 2) := by decide +kernel
theorem dX7_hold_81 : decode cX7_hold 81 = .ok (.invokevirtual 61, 3) := by decide +kernel
theorem dX7_hold_84 : decode cX7_hold 84 = .ok (.ireturn, 1) := by decide +kernel
theorem dX7_mask_0 : decode cX7_mask 0 = .ok (.aload_n 0, 1) := by decide +kernel
theorem dX7_mask_1 : decode cX7_mask 1 = .ok (.iload_n 1, 1) := by decide +kernel
theorem dX7_mask_2 : decode cX7_mask 2 = .ok (.invokevirtual 57, 3) := by decide +kernel
theorem dX7_mask_5 : decode cX7_mask 5 = .ok (.ifCond .ne 5, 3) := by decide +kernel
theorem dX7_mask_8 : decode cX7_mask 8 = .ok (.iconst (-1), 1) := by decide +kernel
theorem dX7_mask_9 : decode cX7_mask 9 = .ok (.ireturn, 1) := by decide +kernel
theorem dX7_mask_10 : decode cX7_mask 10 = .ok (.iload_n 2, 1) := by decide +kernel
theorem dX7_mask_11 : decode cX7_mask 11 = .ok (.iconst 0, 1) := by decide +kernel
theorem dX7_mask_12 : decode cX7_mask 12 = .ok (.iconst 1, 1) := by decide +kernel
theorem dX7_mask_13 : decode cX7_mask 13 = .ok (.invokestatic 40, 3) := by decide +kernel
theorem dX7_mask_16 : decode cX7_mask 16 = .ok (.ifCond .ne 6, 3) := by decide +kernel
theorem dX7_mask_19 : decode cX7_mask 19 = .ok (.bipush (-2), 2) := by decide +kernel
theorem dX7_mask_21 : decode cX7_mask 21 = .ok (.ireturn, 1) := by decide +kernel
theorem dX7_mask_22 : decode cX7_mask 22 = .ok (.aload_n 0, 1) := by decide +kernel
theorem dX7_mask_23 : decode cX7_mask 23 = .ok (.invokevirtual 51, 3) := by decide +kernel
theorem dX7_mask_26 : decode cX7_mask 26 = .ok (.aload_n 0, 1) := by decide +kernel
theorem dX7_mask_27 : decode cX7_mask 27 = .ok (.iload_n 1, 1) := by decide +kernel
theorem dX7_mask_28 : decode cX7_mask 28 = .ok (.iconst 4, 1) := by decide +kernel
theorem dX7_mask_29 : decode cX7_mask 29 = .ok (.invokevirtual 61, 3) := by decide +kernel
theorem dX7_mask_32 : decode cX7_mask 32 = .ok (.istore_n 3, 1) := by decide +kernel
theorem dX7_mask_33 : decode cX7_mask 33 = .ok (.aload_n 0, 1) := by decide +kernel
theorem dX7_mask_34 : decode cX7_mask 34 = .ok (.iload_n 1, 1) := by decide +kernel
theorem dX7_mask_35 : decode cX7_mask 35 = .ok (.iconst 4, 1) := by decide +kernel
theorem dX7_mask_36 : decode cX7_mask 36 = .ok (.iload_n 2, 1) := by decide +kernel
theorem dX7_mask_37 : decode cX7_mask 37 = .ok (.iconst 0, 1) := by decide +kernel
theorem dX7_mask_38 : decode cX7_mask 38 = .ok (.invokevirtual 65, 3) := by decide +kernel
theorem dX7_mask_41 : decode cX7_mask 41 = .ok (.iload_n 3, 1) := by decide +kernel
theorem dX7_mask_42 : decode cX7_mask 42 = .ok (.ireturn, 1) := by decide +kernel
theorem dX7_change_0 : decode cX7_change 0 = .ok (.aload_n 0, 1) := by decide +kernel
theorem dX7_change_1 : decode cX7_change 1 = .ok (.iload_n 1, 1) := by decide +kernel
theorem dX7_change_2 : decode cX7_change 2 = .ok (.invokevirtual 57, 3) := by decide +kernel
theorem dX7_change_5 : decode cX7_change 5 = .ok (.ifCond .ne 5, 3) := by decide +kernel
theorem dX7_change_8 : decode cX7_change 8 = .ok (.iconst (-1), 1) := by decide +kernel
theorem dX7_change_9 : decode cX7_change 9 = .ok (.ireturn, 1) := by decide +kernel
theorem dX7_change_10 : decode cX7_change 10 = .ok (.iload_n 2, 1) := by decide +kernel
theorem dX7_change_11 : decode cX7_change 11 = .ok (.iload_n 3, 1) := by decide +kernel
theorem dX7_change_12 : decode cX7_change 12 = .ok (.iload 4, 2) := by decide +kernel
theorem dX7_change_14 : decode cX7_change 14 = .ok (.invokestatic 54, 3) := by decide +kernel
theorem dX7_change_17 : decode cX7_change 17 = .ok (.ifCond .ne 6, 3) := by decide +kernel
theorem dX7_change_20 : decode cX7_change 20 = .ok (.bipush (-2), 2) := by decide +kernel
theorem dX7_change_22 : decode cX7_change 22 = .ok (.ireturn, 1) := by decide +kernel
theorem dX7_change_23 : decode cX7_change 23 = .ok (.aload_n 0, 1) := by decide +kernel
theorem dX7_change_24 : decode cX7_change 24 = .ok (.invokevirtual 51, 3) := by decide +kernel
theorem dX7_change_27 : decode cX7_change 27 = .ok (.aload_n 0, 1) := by decide +kernel
theorem dX7_change_28 : decode cX7_change 28 = .ok (.iload_n 1, 1) := by decide +kernel
theorem dX7_change_29 : decode cX7_change 29 = .ok (.iconst 0, 1) := by decide +kernel
theorem dX7_change_30 : decode cX7_change 30 = .ok (.invokevirtual 61, 3) := by decide +kernel
theorem dX7_change_33 : decode cX7_change 33 = .ok (.istore 5, 2) := by decide +kernel
theorem dX7_change_35 : decode cX7_change 35 = .ok (.aload_n 0, 1) := by decide +kernel
theorem dX7_change_36 : decode cX7_change 36 = .ok (.iload_n 1, 1) := by decide +kernel
theorem dX7_change_37 : decode cX7_change 37 = .ok (.iconst 0, 1) := by decide +kernel
theorem dX7_change_38 : decode cX7_change 38 = .ok (.iload_n 2, 1) := by decide +kernel
theorem dX7_change_39 : decode cX7_change 39 = .ok (.iconst 0, 1) := by decide +kernel
theorem dX7_change_40 : decode cX7_change 40 = .ok (.invokevirtual 65, 3) := by decide +kernel
theorem dX7_change_43 : decode cX7_change 43 = .ok (.aload_n 0, 1) := by decide +kernel
theorem dX7_change_44 : decode cX7_change 44 = .ok (.iload_n 1, 1) := by decide +kernel
theorem dX7_change_45 : decode cX7_change 45 = .ok (.iconst 1, 1) := by decide +kernel
theorem dX7_change_46 : decode cX7_change 46 = .ok (.iload_n 3, 1) := by decide +kernel
theorem dX7_change_47 : decode cX7_change 47 = .ok (.iconst 0, 1) := by decide +kernel
theorem dX7_change_48 : decode cX7_change 48 = .ok (.invokevirtual 65, 3) := by decide +kernel
theorem dX7_change_51 : decode cX7_change 51 = .ok (.aload_n 0, 1) := by decide +kernel
theorem dX7_change_52 : decode cX7_change 52 = .ok (.iload_n 1, 1) := by decide +kernel
theorem dX7_change_53 : decode cX7_change 53 = .ok (.iconst 2, 1) := by decide +kernel
theorem dX7_change_54 : decode cX7_change 54 = .ok (.iload 4, 2) := by decide +kernel
theorem dX7_change_56 : decode cX7_change 56 = .ok (.iconst 0, 1) := by decide +kernel
theorem dX7_change_57 : decode cX7_change 57 = .ok (.invokevirtual 65, 3) := by decide +kernel
theorem dX7_change_60 : decode cX7_change 60 = .ok (.iload 5, 2) := by decide +kernel
theorem dX7_change_62 : decode cX7_change 62 = .ok (.ireturn, 1) := by decide +kernel
theorem dX7_present_0 : decode cX7_present 0 = .ok (.aload_n 0, 1) := by decide +kernel
theorem dX7_present_1 : decode cX7_present 1 = .ok (.iload_n 1, 1) := by decide +kernel
theorem dX7_present_2 : decode cX7_present 2 = .ok (.iconst 0, 1) := by decide +kernel
theorem dX7_present_3 : decode cX7_present 3 = .ok (.invokevirtual 61, 3) := by decide +kernel
theorem dX7_present_6 : decode cX7_present 6 = .ok (.istore_n 2, 1) := by decide +kernel
theorem dX7_present_7 : decode cX7_present 7 = .ok (.aload_n 0, 1) := by decide +kernel
theorem dX7_present_8 : decode cX7_present 8 = .ok (.iload_n 1, 1) := by decide +kernel
theorem dX7_present_9 : decode cX7_present 9 = .ok (.invokevirtual 69, 3) := by decide +kernel
theorem dX7_present_12 : decode cX7_present 12 = .ok (.ifCond .eq 22, 3) := by decide +kernel
theorem dX7_present_15 : decode cX7_present 15 = .ok (.aload_n 0, 1) := by decide +kernel
theorem dX7_present_16 : decode cX7_present 16 = .ok (.getfield 7, 3) := by decide +kernel
theorem dX7_present_19 : decode cX7_present 19 = .ok (.iconst 0, 1) := by decide +kernel
theorem dX7_present_20 : decode cX7_present 20 = .ok (.iaload, 1) := by decide +kernel
theorem dX7_present_21 : decode cX7_present 21 = .ok (.ifCond .eq 13, 3) := by decide +kernel
theorem dX7_present_24 : decode cX7_present 24 = .ok (.iload_n 2, 1) := by decide +kernel
theorem dX7_present_25 : decode cX7_present 25 = .ok (.aload_n 0, 1) := by decide +kernel
theorem dX7_present_26 : decode cX7_present 26 = .ok (.getfield 7, 3) := by decide +kernel
theorem dX7_present_29 : decode cX7_present 29 = .ok (.iconst 1, 1) := by decide +kernel
theorem dX7_present_30 : decode cX7_present 30 = .ok (.iaload, 1) := by decide +kernel
theorem dX7_present_31 : decode cX7_present 31 = .ok (.if_icmp .lt 5, 3) := by decide +kernel
theorem dX7_present_34 : decode cX7_present 34 = .ok (.iload_n 2, 1) := by decide +kernel
theorem dX7_present_35 : decode cX7_present 35 = .ok (.ireturn, 1) := by decide +kernel
theorem dX7_present_36 : decode cX7_present 36 = .ok (.iload_n 2, 1) := by decide +kernel
theorem dX7_present_37 : decode cX7_present 37 = .ok (.aload_n 0, 1) := by decide +kernel
theorem dX7_present_38 : decode cX7_present 38 = .ok (.iload_n 1, 1) := by decide +kernel
theorem dX7_present_39 : decode cX7_present 39 = .ok (.bipush 6, 2) := by decide +kernel
theorem dX7_present_41 : decode cX7_present 41 = .ok (.invokevirtual 61, 3) := by decide +kernel
theorem dX7_present_44 : decode cX7_present 44 = .ok (.aload_n 0, 1) := by decide +kernel
theorem dX7_present_45 : decode cX7_present 45 = .ok (.getfield 7, 3) := by decide +kernel
theorem dX7_present_48 : decode cX7_present 48 = .ok (.iconst 0, 1) := by decide +kernel
theorem dX7_present_49 : decode cX7_present 49 = .ok (.iaload, 1) := by decide +kernel
theorem dX7_present_50 : decode cX7_present 50 = .ok (.idiv, 1) := by decide +kernel
theorem dX7_present_51 : decode cX7_present 51 = .ok (.iadd, 1) := by decide +kernel
theorem dX7_present_52 : decode cX7_present 52 = .ok (.istore_n 3, 1) := by decide +kernel
theorem dX7_present_53 : decode cX7_present 53 = .ok (.iload_n 3, 1) := by decide +kernel
theorem dX7_present_54 : decode cX7_present 54 = .ok (.aload_n 0, 1) := by decide +kernel
theorem dX7_present_55 : decode cX7_present 55 = .ok (.getfield 7, 3) := by decide +kernel
theorem dX7_present_58 : decode cX7_present 58 = .ok (.iconst 1, 1) := by decide +kernel
theorem dX7_present_59 : decode cX7_present 59 = .ok (.iaload, 1) := by decide +kernel
theorem dX7_present_60 : decode cX7_present 60 = .ok (.if_icmp .le 12, 3) := by decide +kernel
theorem dX7_present_63 : decode cX7_present 63 = .ok (.aload_n 0, 1) := by decide +kernel
theorem dX7_present_64 : decode cX7_present 64 = .ok (.getfield 7, 3) := by decide +kernel
theorem dX7_present_67 : decode cX7_present 67 = .ok (.iconst 1, 1) := by decide +kernel
theorem dX7_present_68 : decode cX7_present 68 = .ok (.iaload, 1) := by decide +kernel
theorem dX7_present_69 : decode cX7_present 69 = .ok (.goto 4, 3) := by decide +kernel
theorem dX7_present_72 : decode cX7_present 72 = .ok (.iload_n 3, 1) := by decide +kernel
theorem dX7_present_73 : decode cX7_present 73 = .ok (.ireturn, 1) := by decide +kernel
theorem dX7_found_0 : decode cX7_found 0 = .ok (.bipush (-6), 2) := by decide +kernel
theorem dX7_found_2 : decode cX7_found 2 = .ok (.istore_n 1, 1) := by decide +kernel
theorem dX7_found_3 : decode cX7_found 3 = .ok (.iconst 0, 1) := by decide +kernel
theorem dX7_found_4 : decode cX7_found 4 = .ok (.istore_n 2, 1) := by decide +kernel
theorem dX7_found_5 : decode cX7_found 5 = .ok (.iload_n 2, 1) := by decide +kernel
theorem dX7_found_6 : decode cX7_found 6 = .ok (.aload_n 0, 1) := by decide +kernel
theorem dX7_found_7 : decode cX7_found 7 = .ok (.getfield 7, 3) := by decide +kernel
theorem dX7_found_10 : decode cX7_found 10 = .ok (.bipush 8, 2) := by decide +kernel
theorem dX7_found_12 : decode cX7_found 12 = .ok (.iaload, 1) := by decide +kernel
theorem dX7_found_13 : decode cX7_found 13 = .ok (.if_icmp .ge 112, 3) := by decide +kernel
theorem dX7_found_16 : decode cX7_found 16 = .ok (.aload_n 0, 1) := by decide +kernel
theorem dX7_found_17 : decode cX7_found 17 = .ok (.iload_n 2, 1) := by decide +kernel
theorem dX7_found_18 : decode cX7_found 18 = .ok (.invokevirtual 69, 3) := by decide +kernel
theorem dX7_found_21 : decode cX7_found 21 = .ok (.ifCond .eq 98, 3) := by decide +kernel
theorem dX7_found_24 : decode cX7_found 24 = .ok (.aload_n 0, 1) := by decide +kernel
theorem dX7_found_25 : decode cX7_found 25 = .ok (.iload_n 2, 1) := by decide +kernel
theorem dX7_found_26 : decode cX7_found 26 = .ok (.invokevirtual 79, 3) := by decide +kernel
theorem dX7_found_29 : decode cX7_found 29 = .ok (.ifCond .ge 90, 3) := by decide +kernel
theorem dX7_found_32 : decode cX7_found 32 = .ok (.aload_n 0, 1) := by decide +kernel
theorem dX7_found_33 : decode cX7_found 33 = .ok (.iload_n 2, 1) := by decide +kernel
theorem dX7_found_34 : decode cX7_found 34 = .ok (.iconst 4, 1) := by decide +kernel
theorem dX7_found_35 : decode cX7_found 35 = .ok (.invokevirtual 61, 3) := by decide +kernel
theorem dX7_found_38 : decode cX7_found 38 = .ok (.ifCond .ne 81, 3) := by decide +kernel
theorem dX7_found_41 : decode cX7_found 41 = .ok (.aload_n 0, 1) := by decide +kernel
theorem dX7_found_42 : decode cX7_found 42 = .ok (.iload_n 2, 1) := by decide +kernel
theorem dX7_found_43 : decode cX7_found 43 = .ok (.invokevirtual 86, 3) := by decide +kernel
theorem dX7_found_46 : decode cX7_found 46 = .ok (.aload_n 0, 1) := by decide +kernel
theorem dX7_found_47 : decode cX7_found 47 = .ok (.getfield 7, 3) := by decide +kernel
theorem dX7_found_50 : decode cX7_found 50 = .ok (.bipush 6, 2) := by decide +kernel
theorem dX7_found_52 : decode cX7_found 52 = .ok (.iaload, 1) := by decide +kernel
theorem dX7_found_53 : decode cX7_found 53 = .ok (.if_icmp .lt 66, 3) := by decide +kernel
theorem dX7_found_56 : decode cX7_found 56 = .ok (.iload_n 1, 1) := by decide +kernel
theorem dX7_found_57 : decode cX7_found 57 = .ok (.ifCond .lt 46, 3) := by decide +kernel
theorem dX7_found_60 : decode cX7_found 60 = .ok (.aload_n 0, 1) := by decide +kernel
theorem dX7_found_61 : decode cX7_found 61 = .ok (.iload_n 2, 1) := by decide +kernel
theorem dX7_found_62 : decode cX7_found 62 = .ok (.invokevirtual 86, 3) := by decide +kernel
theorem dX7_found_65 : decode cX7_found 65 = .ok (.aload_n 0, 1) := by decide +kernel
theorem dX7_found_66 : decode cX7_found 66 = .ok (.iload_n 1, 1) := by decide +kernel
theorem dX7_found_67 : decode cX7_found 67 = .ok (.invokevirtual 86, 3) := by decide +kernel
theorem dX7_found_70 : decode cX7_found 70 = .ok (.if_icmp .gt 33, 3) := by decide +kernel
theorem dX7_found_73 : decode cX7_found 73 = .ok (.aload_n 0, 1) := by decide +kernel
theorem dX7_found_74 : decode cX7_found 74 = .ok (.iload_n 2, 1) := by decide +kernel
theorem dX7_found_75 : decode cX7_found 75 = .ok (.invokevirtual 86, 3) := by decide +kernel
theorem dX7_found_78 : decode cX7_found 78 = .ok (.aload_n 0, 1) := by decide +kernel
theorem dX7_found_79 : decode cX7_found 79 = .ok (.iload_n 1, 1) := by decide +kernel
theorem dX7_found_80 : decode cX7_found 80 = .ok (.invokevirtual 86, 3) := by decide +kernel
theorem dX7_found_83 : decode cX7_found 83 = .ok (.if_icmp .ne 24, 3) := by decide +kernel
theorem dX7_found_86 : decode cX7_found 86 = .ok (.aload_n 0, 1) := by decide +kernel
theorem dX7_found_87 : decode cX7_found 87 = .ok (.iload_n 2, 1) := by decide +kernel
theorem dX7_found_88 : decode cX7_found 88 = .ok (.bipush 6, 2) := by decide +kernel
theorem dX7_found_90 : decode cX7_found 90 = .ok (.invokevirtual 61, 3) := by decide +kernel
theorem dX7_found_93 : decode cX7_found 93 = .ok (.aload_n 0, 1) := by decide +kernel
theorem dX7_found_94 : decode cX7_found 94 = .ok (.iload_n 1, 1) := by decide +kernel
theorem dX7_found_95 : decode cX7_found 95 = .ok (.bipush 6, 2) := by decide +kernel
theorem dX7_found_97 : decode cX7_found 97 = .ok (.invokevirtual 61, 3) := by decide +kernel
theorem dX7_found_100 : decode cX7_found 100 = .ok (.if_icmp .le 7, 3) := by decide +kernel
theorem dX7_found_103 : decode cX7_found 103 = .ok (.iconst 1, 1) := by decide +kernel
theorem dX7_found_104 : decode cX7_found 104 = .ok (.goto 4, 3) := by decide +kernel
theorem dX7_found_107 : decode cX7_found 107 = .ok (.iconst 0, 1) := by decide +kernel
theorem dX7_found_108 : decode cX7_found 108 = .ok (.istore_n 3, 1) := by decide +kernel
theorem dX7_found_109 : decode cX7_found 109 = .ok (.iload_n 3, 1) := by decide +kernel
theorem dX7_found_110 : decode cX7_found 110 = .ok (.ifCond .eq 7, 3) := by decide +kernel
theorem dX7_found_113 : decode cX7_found 113 = .ok (.iload_n 2, 1) := by decide +kernel
theorem dX7_found_114 : decode cX7_found 114 = .ok (.goto 4, 3) := by decide +kernel
theorem dX7_found_117 : decode cX7_found 117 = .ok (.iload_n 1, 1) := by decide +kernel
theorem dX7_found_118 : decode cX7_found 118 = .ok (.istore_n 1, 1) := by decide +kernel
theorem dX7_found_119 : decode cX7_found 119 = .ok (.iinc 2 1, 3) := by decide +kernel
theorem dX7_found_122 : decode cX7_found 122 = .ok (.goto (-117), 3) := by decide +kernel
theorem dX7_found_125 : decode cX7_found 125 = .ok (.iload_n 1, 1) := by decide +kernel
theorem dX7_found_126 : decode cX7_found 126 = .ok (.ireturn, 1) := by decide +kernel
theorem dX7_begin_0 : decode cX7_begin 0 = .ok (.aload_n 0, 1) := by decide +kernel
theorem dX7_begin_1 : decode cX7_begin 1 = .ok (.iload_n 1, 1) := by decide +kernel
theorem dX7_begin_2 : decode cX7_begin 2 = .ok (.bipush 6, 2) := by decide +kernel
theorem dX7_begin_4 : decode cX7_begin 4 = .ok (.invokevirtual 61, 3) := by decide +kernel
theorem dX7_begin_7 : decode cX7_begin 7 = .ok (.istore_n 2, 1) := by decide +kernel
theorem dX7_begin_8 : decode cX7_begin 8 = .ok (.sipush 220, 3) := by decide +kernel
theorem dX7_begin_11 : decode cX7_begin 11 = .ok (.iconst 4, 1) := by decide +kernel
theorem dX7_begin_12 : decode cX7_begin 12 = .ok (.aload_n 0, 1) := by decide +kernel
theorem dX7_begin_13 : decode cX7_begin 13 = .ok (.getfield 7, 3) := by decide +kernel
theorem dX7_begin_16 : decode cX7_begin 16 = .ok (.bipush 10, 2) := by decide +kernel
theorem dX7_begin_18 : decode cX7_begin 18 = .ok (.iaload, 1) := by decide +kernel
theorem dX7_begin_19 : decode cX7_begin 19 = .ok (.imul, 1) := by decide +kernel
theorem dX7_begin_20 : decode cX7_begin 20 = .ok (.iadd, 1) := by decide +kernel
theorem dX7_begin_21 : decode cX7_begin 21 = .ok (.istore_n 3, 1) := by decide +kernel
theorem dX7_begin_22 : decode cX7_begin 22 = .ok (.aload_n 0, 1) := by decide +kernel
theorem dX7_begin_23 : decode cX7_begin 23 = .ok (.getfield 7, 3) := by decide +kernel
theorem dX7_begin_26 : decode cX7_begin 26 = .ok (.iload_n 3, 1) := by decide +kernel
theorem dX7_begin_27 : decode cX7_begin 27 = .ok (.iload_n 1, 1) := by decide +kernel
theorem dX7_begin_28 : decode cX7_begin 28 = .ok (.iastore, 1) := by decide +kernel
theorem dX7_begin_29 : decode cX7_begin 29 = .ok (.aload_n 0, 1) := by decide +kernel
theorem dX7_begin_30 : decode cX7_begin 30 = .ok (.getfield 7, 3) := by decide +kernel
theorem dX7_begin_33 : decode cX7_begin 33 = .ok (.iload_n 3, 1) := by decide +kernel
theorem dX7_begin_34 : decode cX7_begin 34 = .ok (.iconst 1, 1) := by decide +kernel
theorem dX7_begin_35 : decode cX7_begin 35 = .ok (.iadd, 1) := by decide +kernel
theorem dX7_begin_36 : decode cX7_begin 36 = .ok (.aload_n 0, 1) := by decide +kernel
theorem dX7_begin_37 : decode cX7_begin 37 = .ok (.iload_n 1, 1) := by decide +kernel
theorem dX7_begin_38 : decode cX7_begin 38 = .ok (.invokevirtual 86, 3) := by decide +kernel
theorem dX7_begin_41 : decode cX7_begin 41 = .ok (.iastore, 1) := by decide +kernel
theorem dX7_begin_42 : decode cX7_begin 42 = .ok (.aload_n 0, 1) := by decide +kernel
theorem dX7_begin_43 : decode cX7_begin 43 = .ok (.getfield 7, 3) := by decide +kernel
theorem dX7_begin_46 : decode cX7_begin 46 = .ok (.iload_n 3, 1) := by decide +kernel
theorem dX7_begin_47 : decode cX7_begin 47 = .ok (.iconst 2, 1) := by decide +kernel
theorem dX7_begin_48 : decode cX7_begin 48 = .ok (.iadd, 1) := by decide +kernel
theorem dX7_begin_49 : decode cX7_begin 49 = .ok (.aload_n 0, 1) := by decide +kernel
theorem dX7_begin_50 : decode cX7_begin 50 = .ok (.iload_n 1, 1) := by decide +kernel
theorem dX7_begin_51 : decode cX7_begin 51 = .ok (.iconst 1, 1) := by decide +kernel
theorem dX7_begin_52 : decode cX7_begin 52 = .ok (.invokevirtual 61, 3) := by decide +kernel
theorem dX7_begin_55 : decode cX7_begin 55 = .ok (.aload_n 0, 1) := by decide +kernel
theorem dX7_begin_56 : decode cX7_begin 56 = .ok (.getfield 7, 3) := by decide +kernel
theorem dX7_begin_59 : decode cX7_begin 59 = .ok (.iconst 4, 1) := by decide +kernel
theorem dX7_begin_60 : decode cX7_begin 60 = .ok (.iaload, 1) := by decide +kernel
theorem dX7_begin_61 : decode cX7_begin 61 = .ok (.iadd, 1) := by decide +kernel
theorem dX7_begin_62 : decode cX7_begin 62 = .ok (.iastore, 1) := by decide +kernel
theorem dX7_begin_63 : decode cX7_begin 63 = .ok (.aload_n 0, 1) := by decide +kernel
theorem dX7_begin_64 : decode cX7_begin 64 = .ok (.getfield 7, 3) := by decide +kernel
theorem dX7_begin_67 : decode cX7_begin 67 = .ok (.iload_n 3, 1) := by decide +kernel
theorem dX7_begin_68 : decode cX7_begin 68 = .ok (.iconst 3, 1) := by decide +kernel
theorem dX7_begin_69 : decode cX7_begin 69 = .ok (.iadd, 1) := by decide +kernel
theorem dX7_begin_70 : decode cX7_begin 70 = .ok (.aload_n 0, 1) := by decide +kernel
theorem dX7_begin_71 : decode cX7_begin 71 = .ok (.getfield 7, 3) := by decide +kernel
theorem dX7_begin_74 : decode cX7_begin 74 = .ok (.bipush 7, 2) := by decide +kernel
theorem dX7_begin_76 : decode cX7_begin 76 = .ok (.iaload, 1) := by decide +kernel
theorem dX7_begin_77 : decode cX7_begin 77 = .ok (.iastore, 1) := by decide +kernel
theorem dX7_begin_78 : decode cX7_begin 78 = .ok (.aload_n 0, 1) := by decide +kernel
theorem dX7_begin_79 : decode cX7_begin 79 = .ok (.getfield 7, 3) := by decide +kernel
theorem dX7_begin_82 : decode cX7_begin 82 = .ok (.bipush 13, 2) := by decide +kernel
theorem dX7_begin_84 : decode cX7_begin 84 = .ok (.dup2, 1) := by decide +kernel
theorem dX7_begin_85 : decode cX7_begin 85 = .ok (.iaload, 1) := by decide +kernel
theorem dX7_begin_86 : decode cX7_begin 86 = .ok (.aload_n 0, 1) := by decide +kernel
theorem dX7_begin_87 : decode cX7_begin 87 = .ok (.getfield 7, 3) := by decide +kernel
theorem dX7_begin_90 : decode cX7_begin 90 = .ok (.bipush 10, 2) := by decide +kernel
theorem dX7_begin_92 : decode cX7_begin 92 = .ok (.iaload, 1) := by decide +kernel
theorem dX7_begin_93 : decode cX7_begin 93 = .ok (.ifCond .le 7, 3) := by decide +kernel
theorem dX7_begin_96 : decode cX7_begin 96 = .ok (.iconst 1, 1) := by decide +kernel
theorem dX7_begin_97 : decode cX7_begin 97 = .ok (.goto 4, 3) := by decide +kernel
theorem dX7_begin_100 : decode cX7_begin 100 = .ok (.iconst 0, 1) := by decide +kernel
theorem dX7_begin_101 : decode cX7_begin 101 = .ok (.iadd, 1) := by decide +kernel
theorem dX7_begin_102 : decode cX7_begin 102 = .ok (.iastore, 1) := by decide +kernel
theorem dX7_begin_103 : decode cX7_begin 103 = .ok (.aload_n 0, 1) := by decide +kernel
theorem dX7_begin_104 : decode cX7_begin 104 = .ok (.getfield 7, 3) := by decide +kernel
theorem dX7_begin_107 : decode cX7_begin 107 = .ok (.bipush 10, 2) := by decide +kernel
theorem dX7_begin_109 : decode cX7_begin 109 = .ok (.dup2, 1) := by decide +kernel
theorem dX7_begin_110 : decode cX7_begin 110 = .ok (.iaload, 1) := by decide +kernel
theorem dX7_begin_111 : decode cX7_begin 111 = .ok (.iconst 1, 1) := by decide +kernel
theorem dX7_begin_112 : decode cX7_begin 112 = .ok (.iadd, 1) := by decide +kernel
theorem dX7_begin_113 : decode cX7_begin 113 = .ok (.iastore, 1) := by decide +kernel
theorem dX7_begin_114 : decode cX7_begin 114 = .ok (.aload_n 0, 1) := by decide +kernel
theorem dX7_begin_115 : decode cX7_begin 115 = .ok (.getfield 7, 3) := by decide +kernel
theorem dX7_begin_118 : decode cX7_begin 118 = .ok (.bipush 12, 2) := by decide +kernel
theorem dX7_begin_120 : decode cX7_begin 120 = .ok (.aload_n 0, 1) := by decide +kernel
theorem dX7_begin_121 : decode cX7_begin 121 = .ok (.getfield 7, 3) := by decide +kernel
theorem dX7_begin_124 : decode cX7_begin 124 = .ok (.bipush 10, 2) := by decide +kernel
theorem dX7_begin_126 : decode cX7_begin 126 = .ok (.iaload, 1) := by decide +kernel
theorem dX7_begin_127 : decode cX7_begin 127 = .ok (.aload_n 0, 1) := by decide +kernel
theorem dX7_begin_128 : decode cX7_begin 128 = .ok (.getfield 7, 3) := by decide +kernel
theorem dX7_begin_131 : decode cX7_begin 131 = .ok (.bipush 12, 2) := by decide +kernel
theorem dX7_begin_133 : decode cX7_begin 133 = .ok (.iaload, 1) := by decide +kernel
theorem dX7_begin_134 : decode cX7_begin 134 = .ok (.if_icmp .le 13, 3) := by decide +kernel
theorem dX7_begin_137 : decode cX7_begin 137 = .ok (.aload_n 0, 1) := by decide +kernel
theorem dX7_begin_138 : decode cX7_begin 138 = .ok (.getfield 7, 3) := by decide +kernel
theorem dX7_begin_141 : decode cX7_begin 141 = .ok (.bipush 10, 2) := by decide +kernel
theorem dX7_begin_143 : decode cX7_begin 143 = .ok (.iaload, 1) := by decide +kernel
theorem dX7_begin_144 : decode cX7_begin 144 = .ok (.goto 10, 3) := by decide +kernel
theorem dX7_begin_147 : decode cX7_begin 147 = .ok (.aload_n 0, 1) := by decide +kernel
theorem dX7_begin_148 : decode cX7_begin 148 = .ok (.getfield 7, 3) := by decide +kernel
theorem dX7_begin_151 : decode cX7_begin 151 = .ok (.bipush 12, 2) := by decide +kernel
theorem dX7_begin_153 : decode cX7_begin 153 = .ok (.iaload, 1) := by decide +kernel
theorem dX7_begin_154 : decode cX7_begin 154 = .ok (.iastore, 1) := by decide +kernel
theorem dX7_begin_155 : decode cX7_begin 155 = .ok (.aload_n 0, 1) := by decide +kernel
theorem dX7_begin_156 : decode cX7_begin 156 = .ok (.iload_n 1, 1) := by decide +kernel
theorem dX7_begin_157 : decode cX7_begin 157 = .ok (.bipush 10, 2) := by decide +kernel
theorem dX7_begin_159 : decode cX7_begin 159 = .ok (.iconst 1, 1) := by decide +kernel
theorem dX7_begin_160 : decode cX7_begin 160 = .ok (.iconst 1, 1) := by decide +kernel
theorem dX7_begin_161 : decode cX7_begin 161 = .ok (.invokevirtual 65, 3) := by decide +kernel
theorem dX7_begin_164 : decode cX7_begin 164 = .ok (.aload_n 0, 1) := by decide +kernel
theorem dX7_begin_165 : decode cX7_begin 165 = .ok (.iload_n 1, 1) := by decide +kernel
theorem dX7_begin_166 : decode cX7_begin 166 = .ok (.bipush 13, 2) := by decide +kernel
theorem dX7_begin_168 : decode cX7_begin 168 = .ok (.iload_n 2, 1) := by decide +kernel
theorem dX7_begin_169 : decode cX7_begin 169 = .ok (.iconst 1, 1) := by decide +kernel
theorem dX7_begin_170 : decode cX7_begin 170 = .ok (.invokevirtual 65, 3) := by decide +kernel
theorem dX7_begin_173 : decode cX7_begin 173 = .ok (.aload_n 0, 1) := by decide +kernel
theorem dX7_begin_174 : decode cX7_begin 174 = .ok (.iload_n 1, 1) := by decide +kernel
theorem dX7_begin_175 : decode cX7_begin 175 = .ok (.bipush 12, 2) := by decide +kernel
theorem dX7_begin_177 : decode cX7_begin 177 = .ok (.iload_n 2, 1) := by decide +kernel
theorem dX7_begin_178 : decode cX7_begin 178 = .ok (.aload_n 0, 1) := by decide +kernel
theorem dX7_begin_179 : decode cX7_begin 179 = .ok (.iload_n 1, 1) := by decide +kernel
theorem dX7_begin_180 : decode cX7_begin 180 = .ok (.bipush 12, 2) := by decide +kernel
theorem dX7_begin_182 : decode cX7_begin 182 = .ok (.invokevirtual 61, 3) := by decide +kernel
theorem dX7_begin_185 : decode cX7_begin 185 = .ok (.if_icmp .le 7, 3) := by decide +kernel
theorem dX7_begin_188 : decode cX7_begin 188 = .ok (.iload_n 2, 1) := by decide +kernel
theorem dX7_begin_189 : decode cX7_begin 189 = .ok (.goto 10, 3) := by decide +kernel
theorem dX7_begin_192 : decode cX7_begin 192 = .ok (.aload_n 0, 1) := by decide +kernel
theorem dX7_begin_193 : decode cX7_begin 193 = .ok (.iload_n 1, 1) := by decide +kernel
theorem dX7_begin_194 : decode cX7_begin 194 = .ok (.bipush 12, 2) := by decide +kernel
theorem dX7_begin_196 : decode cX7_begin 196 = .ok (.invokevirtual 61, 3) := by decide +kernel
theorem dX7_begin_199 : decode cX7_begin 199 = .ok (.iconst 0, 1) := by decide +kernel
theorem dX7_begin_200 : decode cX7_begin 200 = .ok (.invokevirtual 65, 3) := by decide +kernel
theorem dX7_begin_203 : decode cX7_begin 203 = .ok (.aload_n 0, 1) := by decide +kernel
theorem dX7_begin_204 : decode cX7_begin 204 = .ok (.iload_n 1, 1) := by decide +kernel
theorem dX7_begin_205 : decode cX7_begin 205 = .ok (.bipush 14, 2) := by decide +kernel
theorem dX7_begin_207 : decode cX7_begin 207 = .ok (.aload_n 0, 1) := by decide +kernel
theorem dX7_begin_208 : decode cX7_begin 208 = .ok (.iload_n 1, 1) := by decide +kernel
theorem dX7_begin_209 : decode cX7_begin 209 = .ok (.iconst 2, 1) := by decide +kernel
theorem dX7_begin_210 : decode cX7_begin 210 = .ok (.invokevirtual 61, 3) := by decide +kernel
theorem dX7_begin_213 : decode cX7_begin 213 = .ok (.ifCond .le 17, 3) := by decide +kernel
theorem dX7_begin_216 : decode cX7_begin 216 = .ok (.iload_n 2, 1) := by decide +kernel
theorem dX7_begin_217 : decode cX7_begin 217 = .ok (.aload_n 0, 1) := by decide +kernel
theorem dX7_begin_218 : decode cX7_begin 218 = .ok (.iload_n 1, 1) := by decide +kernel
theorem dX7_begin_219 : decode cX7_begin 219 = .ok (.iconst 2, 1) := by decide +kernel
theorem dX7_begin_220 : decode cX7_begin 220 = .ok (.invokevirtual 61, 3) := by decide +kernel
theorem dX7_begin_223 : decode cX7_begin 223 = .ok (.if_icmp .le 7, 3) := by decide +kernel
theorem dX7_begin_226 : decode cX7_begin 226 = .ok (.iconst 1, 1) := by decide +kernel
theorem dX7_begin_227 : decode cX7_begin 227 = .ok (.goto 4, 3) := by decide +kernel
theorem dX7_begin_230 : decode cX7_begin 230 = .ok (.iconst 0, 1) := by decide +kernel
theorem dX7_begin_231 : decode cX7_begin 231 = .ok (.iconst 1, 1) := by decide +kernel
theorem dX7_begin_232 : decode cX7_begin 232 = .ok (.invokevirtual 65, 3) := by decide +kernel
theorem dX7_begin_235 : decode cX7_begin 235 = .ok (.aload_n 0, 1) := by decide +kernel
theorem dX7_begin_236 : decode cX7_begin 236 = .ok (.iload_n 1, 1) := by decide +kernel
theorem dX7_begin_237 : decode cX7_begin 237 = .ok (.iconst 0, 1) := by decide +kernel
theorem dX7_begin_238 : decode cX7_begin 238 = .ok (.invokevirtual 72, 3) := by decide +kernel
theorem dX7_begin_241 : decode cX7_begin 241 = .ok (.return_, 1) := by decide +kernel
theorem dX7_end_0 : decode cX7_end 0 = .ok (.aload_n 0, 1) := by decide +kernel
theorem dX7_end_1 : decode cX7_end 1 = .ok (.getfield 7, 3) := by decide +kernel
theorem dX7_end_4 : decode cX7_end 4 = .ok (.bipush 10, 2) := by decide +kernel
theorem dX7_end_6 : decode cX7_end 6 = .ok (.dup2, 1) := by decide +kernel
theorem dX7_end_7 : decode cX7_end 7 = .ok (.iaload, 1) := by decide +kernel
theorem dX7_end_8 : decode cX7_end 8 = .ok (.iconst 1, 1) := by decide +kernel
theorem dX7_end_9 : decode cX7_end 9 = .ok (.isub, 1) := by decide +kernel
theorem dX7_end_10 : decode cX7_end 10 = .ok (.iastore, 1) := by decide +kernel
theorem dX7_end_11 : decode cX7_end 11 = .ok (.aload_n 0, 1) := by decide +kernel
theorem dX7_end_12 : decode cX7_end 12 = .ok (.iload_n 1, 1) := by decide +kernel
theorem dX7_end_13 : decode cX7_end 13 = .ok (.bipush 11, 2) := by decide +kernel
theorem dX7_end_15 : decode cX7_end 15 = .ok (.iconst 1, 1) := by decide +kernel
theorem dX7_end_16 : decode cX7_end 16 = .ok (.iconst 1, 1) := by decide +kernel
theorem dX7_end_17 : decode cX7_end 17 = .ok (.invokevirtual 65, 3) := by decide +kernel
theorem dX7_end_20 : decode cX7_end 20 = .ok (.aload_n 0, 1) := by decide +kernel
theorem dX7_end_21 : decode cX7_end 21 = .ok (.iload_n 1, 1) := by decide +kernel
theorem dX7_end_22 : decode cX7_end 22 = .ok (.iconst 3, 1) := by decide +kernel
theorem dX7_end_23 : decode cX7_end 23 = .ok (.invokevirtual 61, 3) := by decide +kernel
theorem dX7_end_26 : decode cX7_end 26 = .ok (.iconst 1, 1) := by decide +kernel
theorem dX7_end_27 : decode cX7_end 27 = .ok (.if_icmp .ne 29, 3) := by decide +kernel
theorem dX7_end_30 : decode cX7_end 30 = .ok (.aload_n 0, 1) := by decide +kernel
theorem dX7_end_31 : decode cX7_end 31 = .ok (.iload_n 1, 1) := by decide +kernel
theorem dX7_end_32 : decode cX7_end 32 = .ok (.bipush 7, 2) := by decide +kernel
theorem dX7_end_34 : decode cX7_end 34 = .ok (.invokevirtual 61, 3) := by decide +kernel
theorem dX7_end_37 : decode cX7_end 37 = .ok (.istore_n 2, 1) := by decide +kernel
theorem dX7_end_38 : decode cX7_end 38 = .ok (.aload_n 0, 1) := by decide +kernel
theorem dX7_end_39 : decode cX7_end 39 = .ok (.iload_n 1, 1) := by decide +kernel
theorem dX7_end_40 : decode cX7_end 40 = .ok (.bipush 7, 2) := by decide +kernel
theorem dX7_end_42 : decode cX7_end 42 = .ok (.iload_n 2, 1) := by decide +kernel
theorem dX7_end_43 : decode cX7_end 43 = .ok (.iload_n 2, 1) := by decide +kernel
theorem dX7_end_44 : decode cX7_end 44 = .ok (.iconst 1, 1) := by decide +kernel
theorem dX7_end_45 : decode cX7_end 45 = .ok (.isub, 1) := by decide +kernel
theorem dX7_end_46 : decode cX7_end 46 = .ok (.iand, 1) := by decide +kernel
theorem dX7_end_47 : decode cX7_end 47 = .ok (.iconst 0, 1) := by decide +kernel
theorem dX7_end_48 : decode cX7_end 48 = .ok (.invokevirtual 65, 3) := by decide +kernel
theorem dX7_end_51 : decode cX7_end 51 = .ok (.aload_n 0, 1) := by decide +kernel
theorem dX7_end_52 : decode cX7_end 52 = .ok (.iload_n 1, 1) := by decide +kernel
theorem dX7_end_53 : decode cX7_end 53 = .ok (.invokevirtual 82, 3) := by decide +kernel
theorem dX7_end_56 : decode cX7_end 56 = .ok (.return_, 1) := by decide +kernel
theorem dX7_pass_0 : decode cX7_pass 0 = .ok (.sipush 260, 3) := by decide +kernel
theorem dX7_pass_3 : decode cX7_pass 3 = .ok (.istore_n 1, 1) := by decide +kernel
theorem dX7_pass_4 : decode cX7_pass 4 = .ok (.iload_n 1, 1) := by decide +kernel
theorem dX7_pass_5 : decode cX7_pass 5 = .ok (.sipush 260, 3) := by decide +kernel
theorem dX7_pass_8 : decode cX7_pass 8 = .ok (.iconst 3, 1) := by decide +kernel
theorem dX7_pass_9 : decode cX7_pass 9 = .ok (.aload_n 0, 1) := by decide +kernel
theorem dX7_pass_10 : decode cX7_pass 10 = .ok (.getfield 7, 3) := by decide +kernel
theorem dX7_pass_13 : decode cX7_pass 13 = .ok (.bipush 9, 2) := by decide +kernel
theorem dX7_pass_15 : decode cX7_pass 15 = .ok (.iaload, 1) := by decide +kernel
theorem dX7_pass_16 : decode cX7_pass 16 = .ok (.imul, 1) := by decide +kernel
theorem dX7_pass_17 : decode cX7_pass 17 = .ok (.iadd, 1) := by decide +kernel
theorem dX7_pass_18 : decode cX7_pass 18 = .ok (.if_icmp .ge 57, 3) := by decide +kernel
theorem dX7_pass_21 : decode cX7_pass 21 = .ok (.aload_n 0, 1) := by decide +kernel
theorem dX7_pass_22 : decode cX7_pass 22 = .ok (.getfield 7, 3) := by decide +kernel
theorem dX7_pass_25 : decode cX7_pass 25 = .ok (.iload_n 1, 1) := by decide +kernel
theorem dX7_pass_26 : decode cX7_pass 26 = .ok (.iconst 2, 1) := by decide +kernel
theorem dX7_pass_27 : decode cX7_pass 27 = .ok (.iadd, 1) := by decide +kernel
theorem dX7_pass_28 : decode cX7_pass 28 = .ok (.iaload, 1) := by decide +kernel
theorem dX7_pass_29 : decode cX7_pass 29 = .ok (.aload_n 0, 1) := by decide +kernel
theorem dX7_pass_30 : decode cX7_pass 30 = .ok (.getfield 7, 3) := by decide +kernel
theorem dX7_pass_33 : decode cX7_pass 33 = .ok (.bipush 7, 2) := by decide +kernel
theorem dX7_pass_35 : decode cX7_pass 35 = .ok (.iaload, 1) := by decide +kernel
theorem dX7_pass_36 : decode cX7_pass 36 = .ok (.if_icmp .gt 33, 3) := by decide +kernel
theorem dX7_pass_39 : decode cX7_pass 39 = .ok (.aload_n 0, 1) := by decide +kernel
theorem dX7_pass_40 : decode cX7_pass 40 = .ok (.aload_n 0, 1) := by decide +kernel
theorem dX7_pass_41 : decode cX7_pass 41 = .ok (.getfield 7, 3) := by decide +kernel
theorem dX7_pass_44 : decode cX7_pass 44 = .ok (.iload_n 1, 1) := by decide +kernel
theorem dX7_pass_45 : decode cX7_pass 45 = .ok (.iaload, 1) := by decide +kernel
theorem dX7_pass_46 : decode cX7_pass 46 = .ok (.invokevirtual 76, 3) := by decide +kernel
theorem dX7_pass_49 : decode cX7_pass 49 = .ok (.pop, 1) := by decide +kernel
theorem dX7_pass_50 : decode cX7_pass 50 = .ok (.aload_n 0, 1) := by decide +kernel
theorem dX7_pass_51 : decode cX7_pass 51 = .ok (.getfield 7, 3) := by decide +kernel
theorem dX7_pass_54 : decode cX7_pass 54 = .ok (.iload_n 1, 1) := by decide +kernel
theorem dX7_pass_55 : decode cX7_pass 55 = .ok (.iconst 2, 1) := by decide +kernel
theorem dX7_pass_56 : decode cX7_pass 56 = .ok (.iadd, 1) := by decide +kernel
theorem dX7_pass_57 : decode cX7_pass 57 = .ok (.dup2, 1) := by decide +kernel
theorem dX7_pass_58 : decode cX7_pass 58 = .ok (.iaload, 1) := by decide +kernel
theorem dX7_pass_59 : decode cX7_pass 59 = .ok (.aload_n 0, 1) := by decide +kernel
theorem dX7_pass_60 : decode cX7_pass 60 = .ok (.getfield 7, 3) := by decide +kernel
theorem dX7_pass_63 : decode cX7_pass 63 = .ok (.iload_n 1, 1) := by decide +kernel
theorem dX7_pass_64 : decode cX7_pass 64 = .ok (.iconst 1, 1) := by decide +kernel
theorem dX7_pass_65 : decode cX7_pass 65 = .ok (.iadd, 1) := by decide +kernel
theorem dX7_pass_66 : decode cX7_pass 66 = .ok (.iaload, 1) := by decide +kernel
theorem dX7_pass_67 : decode cX7_pass 67 = .ok (.iadd, 1) := by decide +kernel
theorem dX7_pass_68 : decode cX7_pass 68 = .ok (.iastore, 1) := by decide +kernel
theorem dX7_pass_69 : decode cX7_pass 69 = .ok (.iinc 1 3, 3) := by decide +kernel
theorem dX7_pass_72 : decode cX7_pass 72 = .ok (.goto (-68), 3) := by decide +kernel
theorem dX7_pass_75 : decode cX7_pass 75 = .ok (.aload_n 0, 1) := by decide +kernel
theorem dX7_pass_76 : decode cX7_pass 76 = .ok (.invokevirtual 89, 3) := by decide +kernel
theorem dX7_pass_79 : decode cX7_pass 79 = .ok (.istore_n 1, 1) := by decide +kernel
theorem dX7_pass_80 : decode cX7_pass 80 = .ok (.iload_n 1, 1) := by decide +kernel
theorem dX7_pass_81 : decode cX7_pass 81 = .ok (.ifCond .lt 23, 3) := by decide +kernel
theorem dX7_pass_84 : decode cX7_pass 84 = .ok (.aload_n 0, 1) := by decide +kernel
theorem dX7_pass_85 : decode cX7_pass 85 = .ok (.getfield 7, 3) := by decide +kernel
theorem dX7_pass_88 : decode cX7_pass 88 = .ok (.bipush 10, 2) := by decide +kernel
theorem dX7_pass_90 : decode cX7_pass 90 = .ok (.iaload, 1) := by decide +kernel
theorem dX7_pass_91 : decode cX7_pass 91 = .ok (.aload_n 0, 1) := by decide +kernel
theorem dX7_pass_92 : decode cX7_pass 92 = .ok (.getfield 7, 3) := by decide +kernel
theorem dX7_pass_95 : decode cX7_pass 95 = .ok (.iconst 3, 1) := by decide +kernel
theorem dX7_pass_96 : decode cX7_pass 96 = .ok (.iaload, 1) := by decide +kernel
theorem dX7_pass_97 : decode cX7_pass 97 = .ok (.if_icmp .ge 7, 3) := by decide +kernel
theorem dX7_pass_100 : decode cX7_pass 100 = .ok (.iconst 1, 1) := by decide +kernel
theorem dX7_pass_101 : decode cX7_pass 101 = .ok (.goto 4, 3) := by decide +kernel
theorem dX7_pass_104 : decode cX7_pass 104 = .ok (.iconst 0, 1) := by decide +kernel
theorem dX7_pass_105 : decode cX7_pass 105 = .ok (.istore_n 2, 1) := by decide +kernel
theorem dX7_pass_106 : decode cX7_pass 106 = .ok (.iload_n 2, 1) := by decide +kernel
theorem dX7_pass_107 : decode cX7_pass 107 = .ok (.ifCond .eq 53, 3) := by decide +kernel
theorem dX7_pass_110 : decode cX7_pass 110 = .ok (.aload_n 0, 1) := by decide +kernel
theorem dX7_pass_111 : decode cX7_pass 111 = .ok (.getfield 7, 3) := by decide +kernel
theorem dX7_pass_114 : decode cX7_pass 114 = .ok (.bipush 10, 2) := by decide +kernel
theorem dX7_pass_116 : decode cX7_pass 116 = .ok (.iaload, 1) := by decide +kernel
theorem dX7_pass_117 : decode cX7_pass 117 = .ok (.ifCond .eq 38, 3) := by decide +kernel
theorem dX7_pass_120 : decode cX7_pass 120 = .ok (.aload_n 0, 1) := by decide +kernel
theorem dX7_pass_121 : decode cX7_pass 121 = .ok (.iload_n 1, 1) := by decide +kernel
theorem dX7_pass_122 : decode cX7_pass 122 = .ok (.invokevirtual 86, 3) := by decide +kernel
theorem dX7_pass_125 : decode cX7_pass 125 = .ok (.aload_n 0, 1) := by decide +kernel
theorem dX7_pass_126 : decode cX7_pass 126 = .ok (.getfield 7, 3) := by decide +kernel
theorem dX7_pass_129 : decode cX7_pass 129 = .ok (.sipush 220, 3) := by decide +kernel
theorem dX7_pass_132 : decode cX7_pass 132 = .ok (.iconst 4, 1) := by decide +kernel
theorem dX7_pass_133 : decode cX7_pass 133 = .ok (.aload_n 0, 1) := by decide +kernel
theorem dX7_pass_134 : decode cX7_pass 134 = .ok (.getfield 7, 3) := by decide +kernel
theorem dX7_pass_137 : decode cX7_pass 137 = .ok (.bipush 10, 2) := by decide +kernel
theorem dX7_pass_139 : decode cX7_pass 139 = .ok (.iaload, 1) := by decide +kernel
theorem dX7_pass_140 : decode cX7_pass 140 = .ok (.imul, 1) := by decide +kernel
theorem dX7_pass_141 : decode cX7_pass 141 = .ok (.iadd, 1) := by decide +kernel
theorem dX7_pass_142 : decode cX7_pass 142 = .ok (.iconst 3, 1) := by decide +kernel
theorem dX7_pass_143 : decode cX7_pass 143 = .ok (.isub, 1) := by decide +kernel
theorem dX7_pass_144 : decode cX7_pass 144 = .ok (.iaload, 1) := by decide +kernel
theorem dX7_pass_145 : decode cX7_pass 145 = .ok (.aload_n 0, 1) := by decide +kernel
theorem dX7_pass_146 : decode cX7_pass 146 = .ok (.getfield 7, 3) := by decide +kernel
theorem dX7_pass_149 : decode cX7_pass 149 = .ok (.iconst 2, 1) := by decide +kernel
theorem dX7_pass_150 : decode cX7_pass 150 = .ok (.iaload, 1) := by decide +kernel
theorem dX7_pass_151 : decode cX7_pass 151 = .ok (.iadd, 1) := by decide +kernel
theorem dX7_pass_152 : decode cX7_pass 152 = .ok (.if_icmp .lt 8, 3) := by decide +kernel
theorem dX7_pass_155 : decode cX7_pass 155 = .ok (.aload_n 0, 1) := by decide +kernel
theorem dX7_pass_156 : decode cX7_pass 156 = .ok (.iload_n 1, 1) := by decide +kernel
theorem dX7_pass_157 : decode cX7_pass 157 = .ok (.invokevirtual 93, 3) := by decide +kernel
theorem dX7_pass_160 : decode cX7_pass 160 = .ok (.aload_n 0, 1) := by decide +kernel
theorem dX7_pass_161 : decode cX7_pass 161 = .ok (.getfield 7, 3) := by decide +kernel
theorem dX7_pass_164 : decode cX7_pass 164 = .ok (.bipush 10, 2) := by decide +kernel
theorem dX7_pass_166 : decode cX7_pass 166 = .ok (.iaload, 1) := by decide +kernel
theorem dX7_pass_167 : decode cX7_pass 167 = .ok (.ifCond .le 63, 3) := by decide +kernel
theorem dX7_pass_170 : decode cX7_pass 170 = .ok (.sipush 220, 3) := by decide +kernel
theorem dX7_pass_173 : decode cX7_pass 173 = .ok (.iconst 4, 1) := by decide +kernel
theorem dX7_pass_174 : decode cX7_pass 174 = .ok (.aload_n 0, 1) := by decide +kernel
theorem dX7_pass_175 : decode cX7_pass 175 = .ok (.getfield 7, 3) := by decide +kernel
theorem dX7_pass_178 : decode cX7_pass 178 = .ok (.bipush 10, 2) := by decide +kernel
theorem dX7_pass_180 : decode cX7_pass 180 = .ok (.iaload, 1) := by decide +kernel
theorem dX7_pass_181 : decode cX7_pass 181 = .ok (.imul, 1) := by decide +kernel
theorem dX7_pass_182 : decode cX7_pass 182 = .ok (.iadd, 1) := by decide +kernel
theorem dX7_pass_183 : decode cX7_pass 183 = .ok (.iconst 4, 1) := by decide +kernel
theorem dX7_pass_184 : decode cX7_pass 184 = .ok (.isub, 1) := by decide +kernel
theorem dX7_pass_185 : decode cX7_pass 185 = .ok (.istore_n 3, 1) := by decide +kernel
theorem dX7_pass_186 : decode cX7_pass 186 = .ok (.aload_n 0, 1) := by decide +kernel
theorem dX7_pass_187 : decode cX7_pass 187 = .ok (.getfield 7, 3) := by decide +kernel
theorem dX7_pass_190 : decode cX7_pass 190 = .ok (.iload_n 3, 1) := by decide +kernel
theorem dX7_pass_191 : decode cX7_pass 191 = .ok (.iconst 2, 1) := by decide +kernel
theorem dX7_pass_192 : decode cX7_pass 192 = .ok (.iadd, 1) := by decide +kernel
theorem dX7_pass_193 : decode cX7_pass 193 = .ok (.dup2, 1) := by decide +kernel
theorem dX7_pass_194 : decode cX7_pass 194 = .ok (.iaload, 1) := by decide +kernel
theorem dX7_pass_195 : decode cX7_pass 195 = .ok (.iconst 1, 1) := by decide +kernel
theorem dX7_pass_196 : decode cX7_pass 196 = .ok (.isub, 1) := by decide +kernel
theorem dX7_pass_197 : decode cX7_pass 197 = .ok (.iastore, 1) := by decide +kernel
theorem dX7_pass_198 : decode cX7_pass 198 = .ok (.aload_n 0, 1) := by decide +kernel
theorem dX7_pass_199 : decode cX7_pass 199 = .ok (.getfield 7, 3) := by decide +kernel
theorem dX7_pass_202 : decode cX7_pass 202 = .ok (.bipush 11, 2) := by decide +kernel
theorem dX7_pass_204 : decode cX7_pass 204 = .ok (.dup2, 1) := by decide +kernel
theorem dX7_pass_205 : decode cX7_pass 205 = .ok (.iaload, 1) := by decide +kernel
theorem dX7_pass_206 : decode cX7_pass 206 = .ok (.iconst 1, 1) := by decide +kernel
theorem dX7_pass_207 : decode cX7_pass 207 = .ok (.iadd, 1) := by decide +kernel
theorem dX7_pass_208 : decode cX7_pass 208 = .ok (.iastore, 1) := by decide +kernel
theorem dX7_pass_209 : decode cX7_pass 209 = .ok (.aload_n 0, 1) := by decide +kernel
theorem dX7_pass_210 : decode cX7_pass 210 = .ok (.getfield 7, 3) := by decide +kernel
theorem dX7_pass_213 : decode cX7_pass 213 = .ok (.iload_n 3, 1) := by decide +kernel
theorem dX7_pass_214 : decode cX7_pass 214 = .ok (.iconst 2, 1) := by decide +kernel
theorem dX7_pass_215 : decode cX7_pass 215 = .ok (.iadd, 1) := by decide +kernel
theorem dX7_pass_216 : decode cX7_pass 216 = .ok (.iaload, 1) := by decide +kernel
theorem dX7_pass_217 : decode cX7_pass 217 = .ok (.ifCond .ne 13, 3) := by decide +kernel
theorem dX7_pass_220 : decode cX7_pass 220 = .ok (.aload_n 0, 1) := by decide +kernel
theorem dX7_pass_221 : decode cX7_pass 221 = .ok (.aload_n 0, 1) := by decide +kernel
theorem dX7_pass_222 : decode cX7_pass 222 = .ok (.getfield 7, 3) := by decide +kernel
theorem dX7_pass_225 : decode cX7_pass 225 = .ok (.iload_n 3, 1) := by decide +kernel
theorem dX7_pass_226 : decode cX7_pass 226 = .ok (.iaload, 1) := by decide +kernel
theorem dX7_pass_227 : decode cX7_pass 227 = .ok (.invokevirtual 96, 3) := by decide +kernel
theorem dX7_pass_230 : decode cX7_pass 230 = .ok (.iconst 0, 1) := by decide +kernel
theorem dX7_pass_231 : decode cX7_pass 231 = .ok (.istore_n 3, 1) := by decide +kernel
theorem dX7_pass_232 : decode cX7_pass 232 = .ok (.iload_n 3, 1) := by decide +kernel
theorem dX7_pass_233 : decode cX7_pass 233 = .ok (.aload_n 0, 1) := by decide +kernel
theorem dX7_pass_234 : decode cX7_pass 234 = .ok (.getfield 7, 3) := by decide +kernel
theorem dX7_pass_237 : decode cX7_pass 237 = .ok (.bipush 8, 2) := by decide +kernel
theorem dX7_pass_239 : decode cX7_pass 239 = .ok (.iaload, 1) := by decide +kernel
theorem dX7_pass_240 : decode cX7_pass 240 = .ok (.if_icmp .ge 30, 3) := by decide +kernel
theorem dX7_pass_243 : decode cX7_pass 243 = .ok (.aload_n 0, 1) := by decide +kernel
theorem dX7_pass_244 : decode cX7_pass 244 = .ok (.iload_n 3, 1) := by decide +kernel
theorem dX7_pass_245 : decode cX7_pass 245 = .ok (.bipush 6, 2) := by decide +kernel
theorem dX7_pass_247 : decode cX7_pass 247 = .ok (.aload_n 0, 1) := by decide +kernel
theorem dX7_pass_248 : decode cX7_pass 248 = .ok (.iload_n 3, 1) := by decide +kernel
theorem dX7_pass_249 : decode cX7_pass 249 = .ok (.invokevirtual 69, 3) := by decide +kernel
theorem dX7_pass_252 : decode cX7_pass 252 = .ok (.ifCond .eq 7, 3) := by decide +kernel
theorem dX7_pass_255 : decode cX7_pass 255 = .ok (.iconst 1, 1) := by decide +kernel
theorem dX7_pass_256 : decode cX7_pass 256 = .ok (.goto 4, 3) := by decide +kernel
theorem dX7_pass_259 : decode cX7_pass 259 = .ok (.iconst 0, 1) := by decide +kernel
theorem dX7_pass_260 : decode cX7_pass 260 = .ok (.iconst 1, 1) := by decide +kernel
theorem dX7_pass_261 : decode cX7_pass 261 = .ok (.invokevirtual 65, 3) := by decide +kernel
theorem dX7_pass_264 : decode cX7_pass 264 = .ok (.iinc 3 1, 3) := by decide +kernel
theorem dX7_pass_267 : decode cX7_pass 267 = .ok (.goto (-35), 3) := by decide +kernel
theorem dX7_pass_270 : decode cX7_pass 270 = .ok (.aload_n 0, 1) := by decide +kernel
theorem dX7_pass_271 : decode cX7_pass 271 = .ok (.getfield 7, 3) := by decide +kernel
theorem dX7_pass_274 : decode cX7_pass 274 = .ok (.bipush 7, 2) := by decide +kernel
theorem dX7_pass_276 : decode cX7_pass 276 = .ok (.dup2, 1) := by decide +kernel
theorem dX7_pass_277 : decode cX7_pass 277 = .ok (.iaload, 1) := by decide +kernel
theorem dX7_pass_278 : decode cX7_pass 278 = .ok (.iconst 1, 1) := by decide +kernel
theorem dX7_pass_279 : decode cX7_pass 279 = .ok (.iadd, 1) := by decide +kernel
theorem dX7_pass_280 : decode cX7_pass 280 = .ok (.iastore, 1) := by decide +kernel
theorem dX7_pass_281 : decode cX7_pass 281 = .ok (.return_, 1) := by decide +kernel
theorem dX7_ticks_0 : decode cX7_ticks 0 = .ok (.iload_n 1, 1) := by decide +kernel
theorem dX7_ticks_1 : decode cX7_ticks 1 = .ok (.iconst 1, 1) := by decide +kernel
theorem dX7_ticks_2 : decode cX7_ticks 2 = .ok (.sipush 500, 3) := by decide +kernel
theorem dX7_ticks_5 : decode cX7_ticks 5 = .ok (.invokestatic 40, 3) := by decide +kernel
theorem dX7_ticks_8 : decode cX7_ticks 8 = .ok (.ifCond .ne 6, 3) := by decide +kernel
theorem dX7_ticks_11 : decode cX7_ticks 11 = .ok (.bipush (-2), 2) := by decide +kernel
theorem dX7_ticks_13 : decode cX7_ticks 13 = .ok (.ireturn, 1) := by decide +kernel
theorem dX7_ticks_14 : decode cX7_ticks 14 = .ok (.aload_n 0, 1) := by decide +kernel
theorem dX7_ticks_15 : decode cX7_ticks 15 = .ok (.invokevirtual 51, 3) := by decide +kernel
theorem dX7_ticks_18 : decode cX7_ticks 18 = .ok (.iconst 0, 1) := by decide +kernel
theorem dX7_ticks_19 : decode cX7_ticks 19 = .ok (.istore_n 2, 1) := by decide +kernel
theorem dX7_ticks_20 : decode cX7_ticks 20 = .ok (.iload_n 2, 1) := by decide +kernel
theorem dX7_ticks_21 : decode cX7_ticks 21 = .ok (.iload_n 1, 1) := by decide +kernel
theorem dX7_ticks_22 : decode cX7_ticks 22 = .ok (.if_icmp .ge 13, 3) := by decide +kernel
theorem dX7_ticks_25 : decode cX7_ticks 25 = .ok (.aload_n 0, 1) := by decide +kernel
theorem dX7_ticks_26 : decode cX7_ticks 26 = .ok (.invokevirtual 99, 3) := by decide +kernel
theorem dX7_ticks_29 : decode cX7_ticks 29 = .ok (.iinc 2 1, 3) := by decide +kernel
theorem dX7_ticks_32 : decode cX7_ticks 32 = .ok (.goto (-12), 3) := by decide +kernel
theorem dX7_ticks_35 : decode cX7_ticks 35 = .ok (.aload_n 0, 1) := by decide +kernel
theorem dX7_ticks_36 : decode cX7_ticks 36 = .ok (.getfield 7, 3) := by decide +kernel
theorem dX7_ticks_39 : decode cX7_ticks 39 = .ok (.bipush 7, 2) := by decide +kernel
theorem dX7_ticks_41 : decode cX7_ticks 41 = .ok (.iaload, 1) := by decide +kernel
theorem dX7_ticks_42 : decode cX7_ticks 42 = .ok (.ireturn, 1) := by decide +kernel
theorem dX7_ofLine_0 : decode cX7_ofLine 0 = .ok (.aload_n 0, 1) := by decide +kernel
theorem dX7_ofLine_1 : decode cX7_ofLine 1 = .ok (.iload_n 1, 1) := by decide +kernel
theorem dX7_ofLine_2 : decode cX7_ofLine 2 = .ok (.invokevirtual 57, 3) := by decide +kernel
theorem dX7_ofLine_5 : decode cX7_ofLine 5 = .ok (.ifCond .ne 5, 3) := by decide +kernel
theorem dX7_ofLine_8 : decode cX7_ofLine 8 = .ok (.iconst (-1), 1) := by decide +kernel
theorem dX7_ofLine_9 : decode cX7_ofLine 9 = .ok (.ireturn, 1) := by decide +kernel
theorem dX7_ofLine_10 : decode cX7_ofLine 10 = .ok (.iload_n 2, 1) := by decide +kernel
theorem dX7_ofLine_11 : decode cX7_ofLine 11 = .ok (.tableswitch 58 6 8 #[25, 46, 52], 25) := by decide +kernel
theorem dX7_ofLine_36 : decode cX7_ofLine 36 = .ok (.aload_n 0, 1) := by decide +kernel
theorem dX7_ofLine_37 : decode cX7_ofLine 37 = .ok (.iload_n 1, 1) := by decide +kernel
theorem dX7_ofLine_38 : decode cX7_ofLine 38 = .ok (.invokevirtual 69, 3) := by decide +kernel
theorem dX7_ofLine_41 : decode cX7_ofLine 41 = .ok (.ifCond .eq 13, 3) := by decide +kernel
theorem dX7_ofLine_44 : decode cX7_ofLine 44 = .ok (.aload_n 0, 1) := by decide +kernel
theorem dX7_ofLine_45 : decode cX7_ofLine 45 = .ok (.iload_n 1, 1) := by decide +kernel
theorem dX7_ofLine_46 : decode cX7_ofLine 46 = .ok (.bipush 6, 2) := by decide +kernel
theorem dX7_ofLine_48 : decode cX7_ofLine 48 = .ok (.invokevirtual 61, 3) := by decide +kernel
theorem dX7_ofLine_51 : decode cX7_ofLine 51 = .ok (.goto 5, 3) := by decide +kernel
theorem dX7_ofLine_54 : decode cX7_ofLine 54 = .ok (.bipush (-6), 2) := by decide +kernel
theorem dX7_ofLine_56 : decode cX7_ofLine 56 = .ok (.ireturn, 1) := by decide +kernel
theorem dX7_ofLine_57 : decode cX7_ofLine 57 = .ok (.aload_n 0, 1) := by decide +kernel
theorem dX7_ofLine_58 : decode cX7_ofLine 58 = .ok (.iload_n 1, 1) := by decide +kernel
theorem dX7_ofLine_59 : decode cX7_ofLine 59 = .ok (.invokevirtual 86, 3) := by decide +kernel
theorem dX7_ofLine_62 : decode cX7_ofLine 62 = .ok (.ireturn, 1) := by decide +kernel
theorem dX7_ofLine_63 : decode cX7_ofLine 63 = .ok (.aload_n 0, 1) := by decide +kernel
theorem dX7_ofLine_64 : decode cX7_ofLine 64 = .ok (.iload_n 1, 1) := by decide +kernel
theorem dX7_ofLine_65 : decode cX7_ofLine 65 = .ok (.invokevirtual 79, 3) := by decide +kernel
theorem dX7_ofLine_68 : decode cX7_ofLine 68 = .ok (.ireturn, 1) := by decide +kernel
theorem dX7_ofLine_69 : decode cX7_ofLine 69 = .ok (.iload_n 2, 1) := by decide +kernel
theorem dX7_ofLine_70 : decode cX7_ofLine 70 = .ok (.iconst 0, 1) := by decide +kernel
theorem dX7_ofLine_71 : decode cX7_ofLine 71 = .ok (.iconst 5, 1) := by decide +kernel
theorem dX7_ofLine_72 : decode cX7_ofLine 72 = .ok (.invokestatic 40, 3) := by decide +kernel
theorem dX7_ofLine_75 : decode cX7_ofLine 75 = .ok (.ifCond .eq 12, 3) := by decide +kernel
theorem dX7_ofLine_78 : decode cX7_ofLine 78 = .ok (.aload_n 0, 1) := by decide +kernel
theorem dX7_ofLine_79 : decode cX7_ofLine 79 = .ok (.iload_n 1, 1) := by decide +kernel
theorem dX7_ofLine_80 : decode cX7_ofLine 80 = .ok (.iload_n 2, 1) := by decide +kernel
theorem dX7_ofLine_81 : decode cX7_ofLine 81 = .ok (.invokevirtual 61, 3) := by decide +kernel
theorem dX7_ofLine_84 : decode cX7_ofLine 84 = .ok (.goto 27, 3) := by decide +kernel
theorem dX7_ofLine_87 : decode cX7_ofLine 87 = .ok (.iload_n 2, 1) := by decide +kernel
theorem dX7_ofLine_88 : decode cX7_ofLine 88 = .ok (.bipush 9, 2) := by decide +kernel
theorem dX7_ofLine_90 : decode cX7_ofLine 90 = .ok (.bipush 16, 2) := by decide +kernel
theorem dX7_ofLine_92 : decode cX7_ofLine 92 = .ok (.invokestatic 40, 3) := by decide +kernel
theorem dX7_ofLine_95 : decode cX7_ofLine 95 = .ok (.ifCond .eq 14, 3) := by decide +kernel
theorem dX7_ofLine_98 : decode cX7_ofLine 98 = .ok (.aload_n 0, 1) := by decide +kernel
theorem dX7_ofLine_99 : decode cX7_ofLine 99 = .ok (.iload_n 1, 1) := by decide +kernel
theorem dX7_ofLine_100 : decode cX7_ofLine 100 = .ok (.iload_n 2, 1) := by decide +kernel
theorem dX7_ofLine_101 : decode cX7_ofLine 101 = .ok (.iconst 2, 1) := by decide +kernel
theorem dX7_ofLine_102 : decode cX7_ofLine 102 = .ok (.isub, 1) := by decide +kernel
theorem dX7_ofLine_103 : decode cX7_ofLine 103 = .ok (.invokevirtual 61, 3) := by decide +kernel
theorem dX7_ofLine_106 : decode cX7_ofLine 106 = .ok (.goto 5, 3) := by decide +kernel
theorem dX7_ofLine_109 : decode cX7_ofLine 109 = .ok (.bipush (-2), 2) := by decide +kernel
theorem dX7_ofLine_111 : decode cX7_ofLine 111 = .ok (.ireturn, 1) := by decide +kernel
theorem dX7_ofNest_0 : decode cX7_ofNest 0 = .ok (.iload_n 1, 1) := by decide +kernel
theorem dX7_ofNest_1 : decode cX7_ofNest 1 = .ok (.iconst 0, 1) := by decide +kernel
theorem dX7_ofNest_2 : decode cX7_ofNest 2 = .ok (.aload_n 0, 1) := by decide +kernel
theorem dX7_ofNest_3 : decode cX7_ofNest 3 = .ok (.getfield 7, 3) := by decide +kernel
theorem dX7_ofNest_6 : decode cX7_ofNest 6 = .ok (.bipush 10, 2) := by decide +kernel
theorem dX7_ofNest_8 : decode cX7_ofNest 8 = .ok (.iaload, 1) := by decide +kernel
theorem dX7_ofNest_9 : decode cX7_ofNest 9 = .ok (.iconst 1, 1) := by decide +kernel
theorem dX7_ofNest_10 : decode cX7_ofNest 10 = .ok (.isub, 1) := by decide +kernel
theorem dX7_ofNest_11 : decode cX7_ofNest 11 = .ok (.invokestatic 40, 3) := by decide +kernel
theorem dX7_ofNest_14 : decode cX7_ofNest 14 = .ok (.ifCond .ne 5, 3) := by decide +kernel
theorem dX7_ofNest_17 : decode cX7_ofNest 17 = .ok (.iconst (-1), 1) := by decide +kernel
theorem dX7_ofNest_18 : decode cX7_ofNest 18 = .ok (.ireturn, 1) := by decide +kernel
theorem dX7_ofNest_19 : decode cX7_ofNest 19 = .ok (.iload_n 2, 1) := by decide +kernel
theorem dX7_ofNest_20 : decode cX7_ofNest 20 = .ok (.iconst 0, 1) := by decide +kernel
theorem dX7_ofNest_21 : decode cX7_ofNest 21 = .ok (.iconst 3, 1) := by decide +kernel
theorem dX7_ofNest_22 : decode cX7_ofNest 22 = .ok (.invokestatic 40, 3) := by decide +kernel
theorem dX7_ofNest_25 : decode cX7_ofNest 25 = .ok (.ifCond .eq 20, 3) := by decide +kernel
theorem dX7_ofNest_28 : decode cX7_ofNest 28 = .ok (.aload_n 0, 1) := by decide +kernel
theorem dX7_ofNest_29 : decode cX7_ofNest 29 = .ok (.getfield 7, 3) := by decide +kernel
theorem dX7_ofNest_32 : decode cX7_ofNest 32 = .ok (.sipush 220, 3) := by decide +kernel
theorem dX7_ofNest_35 : decode cX7_ofNest 35 = .ok (.iconst 4, 1) := by decide +kernel
theorem dX7_ofNest_36 : decode cX7_ofNest 36 = .ok (.iload_n 1, 1) := by decide +kernel
theorem dX7_ofNest_37 : decode cX7_ofNest 37 = .ok (.imul, 1) := by decide +kernel
theorem dX7_ofNest_38 : decode cX7_ofNest 38 = .ok (.iadd, 1) := by decide +kernel
theorem dX7_ofNest_39 : decode cX7_ofNest 39 = .ok (.iload_n 2, 1) := by decide +kernel
theorem dX7_ofNest_40 : decode cX7_ofNest 40 = .ok (.iadd, 1) := by decide +kernel
theorem dX7_ofNest_41 : decode cX7_ofNest 41 = .ok (.iaload, 1) := by decide +kernel
theorem dX7_ofNest_42 : decode cX7_ofNest 42 = .ok (.goto 5, 3) := by decide +kernel
theorem dX7_ofNest_45 : decode cX7_ofNest 45 = .ok (.bipush (-2), 2) := by decide +kernel
theorem dX7_ofNest_47 : decode cX7_ofNest 47 = .ok (.ireturn, 1) := by decide +kernel
theorem dX7_ofTimer_0 : decode cX7_ofTimer 0 = .ok (.iload_n 1, 1) := by decide +kernel
theorem dX7_ofTimer_1 : decode cX7_ofTimer 1 = .ok (.iconst 0, 1) := by decide +kernel
theorem dX7_ofTimer_2 : decode cX7_ofTimer 2 = .ok (.aload_n 0, 1) := by decide +kernel
theorem dX7_ofTimer_3 : decode cX7_ofTimer 3 = .ok (.getfield 7, 3) := by decide +kernel
theorem dX7_ofTimer_6 : decode cX7_ofTimer 6 = .ok (.bipush 9, 2) := by decide +kernel
theorem dX7_ofTimer_8 : decode cX7_ofTimer 8 = .ok (.iaload, 1) := by decide +kernel
theorem dX7_ofTimer_9 : decode cX7_ofTimer 9 = .ok (.iconst 1, 1) := by decide +kernel
theorem dX7_ofTimer_10 : decode cX7_ofTimer 10 = .ok (.isub, 1) := by decide +kernel
theorem dX7_ofTimer_11 : decode cX7_ofTimer 11 = .ok (.invokestatic 40, 3) := by decide +kernel
theorem dX7_ofTimer_14 : decode cX7_ofTimer 14 = .ok (.ifCond .ne 5, 3) := by decide +kernel
theorem dX7_ofTimer_17 : decode cX7_ofTimer 17 = .ok (.iconst (-1), 1) := by decide +kernel
theorem dX7_ofTimer_18 : decode cX7_ofTimer 18 = .ok (.ireturn, 1) := by decide +kernel
theorem dX7_ofTimer_19 : decode cX7_ofTimer 19 = .ok (.iload_n 2, 1) := by decide +kernel
theorem dX7_ofTimer_20 : decode cX7_ofTimer 20 = .ok (.iconst 0, 1) := by decide +kernel
theorem dX7_ofTimer_21 : decode cX7_ofTimer 21 = .ok (.iconst 2, 1) := by decide +kernel
theorem dX7_ofTimer_22 : decode cX7_ofTimer 22 = .ok (.invokestatic 40, 3) := by decide +kernel
theorem dX7_ofTimer_25 : decode cX7_ofTimer 25 = .ok (.ifCond .eq 20, 3) := by decide +kernel
theorem dX7_ofTimer_28 : decode cX7_ofTimer 28 = .ok (.aload_n 0, 1) := by decide +kernel
theorem dX7_ofTimer_29 : decode cX7_ofTimer 29 = .ok (.getfield 7, 3) := by decide +kernel
theorem dX7_ofTimer_32 : decode cX7_ofTimer 32 = .ok (.sipush 260, 3) := by decide +kernel
theorem dX7_ofTimer_35 : decode cX7_ofTimer 35 = .ok (.iconst 3, 1) := by decide +kernel
theorem dX7_ofTimer_36 : decode cX7_ofTimer 36 = .ok (.iload_n 1, 1) := by decide +kernel
theorem dX7_ofTimer_37 : decode cX7_ofTimer 37 = .ok (.imul, 1) := by decide +kernel
theorem dX7_ofTimer_38 : decode cX7_ofTimer 38 = .ok (.iadd, 1) := by decide +kernel
theorem dX7_ofTimer_39 : decode cX7_ofTimer 39 = .ok (.iload_n 2, 1) := by decide +kernel
theorem dX7_ofTimer_40 : decode cX7_ofTimer 40 = .ok (.iadd, 1) := by decide +kernel
theorem dX7_ofTimer_41 : decode cX7_ofTimer 41 = .ok (.iaload, 1) := by decide +kernel
theorem dX7_ofTimer_42 : decode cX7_ofTimer 42 = .ok (.goto 5, 3) := by decide +kernel
theorem dX7_ofTimer_45 : decode cX7_ofTimer 45 = .ok (.bipush (-2), 2) := by decide +kernel
theorem dX7_ofTimer_47 : decode cX7_ofTimer 47 = .ok (.ireturn, 1) := by decide +kernel
theorem dX7_misses_0 : decode cX7_misses 0 = .ok (.iconst 0, 1) := by decide +kernel
theorem dX7_misses_1 : decode cX7_misses 1 = .ok (.istore_n 1, 1) := by decide +kernel
theorem dX7_misses_2 : decode cX7_misses 2 = .ok (.iconst 0, 1) := by decide +kernel
theorem dX7_misses_3 : decode cX7_misses 3 = .ok (.istore_n 2, 1) := by decide +kernel
theorem dX7_misses_4 : decode cX7_misses 4 = .ok (.iload_n 2, 1) := by decide +kernel
theorem dX7_misses_5 : decode cX7_misses 5 = .ok (.aload_n 0, 1) := by decide +kernel
theorem dX7_misses_6 : decode cX7_misses 6 = .ok (.getfield 7, 3) := by decide +kernel
theorem dX7_misses_9 : decode cX7_misses 9 = .ok (.bipush 8, 2) := by decide +kernel
theorem dX7_misses_11 : decode cX7_misses 11 = .ok (.iaload, 1) := by decide +kernel
theorem dX7_misses_12 : decode cX7_misses 12 = .ok (.if_icmp .ge 19, 3) := by decide +kernel
theorem dX7_misses_15 : decode cX7_misses 15 = .ok (.iload_n 1, 1) := by decide +kernel
theorem dX7_misses_16 : decode cX7_misses 16 = .ok (.aload_n 0, 1) := by decide +kernel
theorem dX7_misses_17 : decode cX7_misses 17 = .ok (.iload_n 2, 1) := by decide +kernel
theorem dX7_misses_18 : decode cX7_misses 18 = .ok (.bipush 14, 2) := by decide +kernel
theorem dX7_misses_20 : decode cX7_misses 20 = .ok (.invokevirtual 61, 3) := by decide +kernel
theorem dX7_misses_23 : decode cX7_misses 23 = .ok (.iadd, 1) := by decide +kernel
theorem dX7_misses_24 : decode cX7_misses 24 = .ok (.istore_n 1, 1) := by decide +kernel
theorem dX7_misses_25 : decode cX7_misses 25 = .ok (.iinc 2 1, 3) := by decide +kernel
theorem dX7_misses_28 : decode cX7_misses 28 = .ok (.goto (-24), 3) := by decide +kernel
theorem dX7_misses_31 : decode cX7_misses 31 = .ok (.iload_n 1, 1) := by decide +kernel
theorem dX7_misses_32 : decode cX7_misses 32 = .ok (.ireturn, 1) := by decide +kernel
theorem dX7_waiting_0 : decode cX7_waiting 0 = .ok (.iconst 0, 1) := by decide +kernel
theorem dX7_waiting_1 : decode cX7_waiting 1 = .ok (.istore_n 1, 1) := by decide +kernel
theorem dX7_waiting_2 : decode cX7_waiting 2 = .ok (.iconst 0, 1) := by decide +kernel
theorem dX7_waiting_3 : decode cX7_waiting 3 = .ok (.istore_n 2, 1) := by decide +kernel
theorem dX7_waiting_4 : decode cX7_waiting 4 = .ok (.iload_n 2, 1) := by decide +kernel
theorem dX7_waiting_5 : decode cX7_waiting 5 = .ok (.aload_n 0, 1) := by decide +kernel
theorem dX7_waiting_6 : decode cX7_waiting 6 = .ok (.getfield 7, 3) := by decide +kernel
theorem dX7_waiting_9 : decode cX7_waiting 9 = .ok (.bipush 8, 2) := by decide +kernel
theorem dX7_waiting_11 : decode cX7_waiting 11 = .ok (.iaload, 1) := by decide +kernel
theorem dX7_waiting_12 : decode cX7_waiting 12 = .ok (.if_icmp .ge 27, 3) := by decide +kernel
theorem dX7_waiting_15 : decode cX7_waiting 15 = .ok (.iload_n 1, 1) := by decide +kernel
theorem dX7_waiting_16 : decode cX7_waiting 16 = .ok (.aload_n 0, 1) := by decide +kernel
theorem dX7_waiting_17 : decode cX7_waiting 17 = .ok (.iload_n 2, 1) := by decide +kernel
theorem dX7_waiting_18 : decode cX7_waiting 18 = .ok (.invokevirtual 69, 3) := by decide +kernel
theorem dX7_waiting_21 : decode cX7_waiting 21 = .ok (.ifCond .eq 9, 3) := by decide +kernel
theorem dX7_waiting_24 : decode cX7_waiting 24 = .ok (.iconst 1, 1) := by decide +kernel
theorem dX7_waiting_25 : decode cX7_waiting 25 = .ok (.iload_n 2, 1) := by decide +kernel
theorem dX7_waiting_26 : decode cX7_waiting 26 = .ok (.ishl, 1) := by decide +kernel
theorem dX7_waiting_27 : decode cX7_waiting 27 = .ok (.goto 4, 3) := by decide +kernel
theorem dX7_waiting_30 : decode cX7_waiting 30 = .ok (.iconst 0, 1) := by decide +kernel
theorem dX7_waiting_31 : decode cX7_waiting 31 = .ok (.ior, 1) := by decide +kernel
theorem dX7_waiting_32 : decode cX7_waiting 32 = .ok (.istore_n 1, 1) := by decide +kernel
theorem dX7_waiting_33 : decode cX7_waiting 33 = .ok (.iinc 2 1, 3) := by decide +kernel
theorem dX7_waiting_36 : decode cX7_waiting 36 = .ok (.goto (-32), 3) := by decide +kernel
theorem dX7_waiting_39 : decode cX7_waiting 39 = .ok (.iload_n 1, 1) := by decide +kernel
theorem dX7_waiting_40 : decode cX7_waiting 40 = .ok (.ireturn, 1) := by decide +kernel
theorem dX7_count_0 : decode cX7_count 0 = .ok (.iload_n 1, 1) := by decide +kernel
theorem dX7_count_1 : decode cX7_count 1 = .ok (.bipush 12, 2) := by decide +kernel
theorem dX7_count_3 : decode cX7_count 3 = .ok (.bipush 18, 2) := by decide +kernel
theorem dX7_count_5 : decode cX7_count 5 = .ok (.invokestatic 40, 3) := by decide +kernel
theorem dX7_count_8 : decode cX7_count 8 = .ok (.ifCond .eq 13, 3) := by decide +kernel
theorem dX7_count_11 : decode cX7_count 11 = .ok (.aload_n 0, 1) := by decide +kernel
theorem dX7_count_12 : decode cX7_count 12 = .ok (.getfield 7, 3) := by decide +kernel
theorem dX7_count_15 : decode cX7_count 15 = .ok (.iload_n 1, 1) := by decide +kernel
theorem dX7_count_16 : decode cX7_count 16 = .ok (.bipush 12, 2) := by decide +kernel
theorem dX7_count_18 : decode cX7_count 18 = .ok (.isub, 1) := by decide +kernel
theorem dX7_count_19 : decode cX7_count 19 = .ok (.iaload, 1) := by decide +kernel
theorem dX7_count_20 : decode cX7_count 20 = .ok (.ireturn, 1) := by decide +kernel
theorem dX7_count_21 : decode cX7_count 21 = .ok (.iload_n 1, 1) := by decide +kernel
theorem dX7_count_22 : decode cX7_count 22 = .ok (.tableswitch 134 0 10 #[58, 66, 74, 82, 90, 95, 100, 108, 116, 121, 129], 58) := by decide +kernel
theorem dX7_count_80 : decode cX7_count 80 = .ok (.aload_n 0, 1) := by decide +kernel
theorem dX7_count_81 : decode cX7_count 81 = .ok (.getfield 7, 3) := by decide +kernel
theorem dX7_count_84 : decode cX7_count 84 = .ok (.bipush 7, 2) := by decide +kernel
theorem dX7_count_86 : decode cX7_count 86 = .ok (.iaload, 1) := by decide +kernel
theorem dX7_count_87 : decode cX7_count 87 = .ok (.ireturn, 1) := by decide +kernel
theorem dX7_count_88 : decode cX7_count 88 = .ok (.aload_n 0, 1) := by decide +kernel
theorem dX7_count_89 : decode cX7_count 89 = .ok (.getfield 7, 3) := by decide +kernel
theorem dX7_count_92 : decode cX7_count 92 = .ok (.bipush 8, 2) := by decide +kernel
theorem dX7_count_94 : decode cX7_count 94 = .ok (.iaload, 1) := by decide +kernel
theorem dX7_count_95 : decode cX7_count 95 = .ok (.ireturn, 1) := by decide +kernel
theorem dX7_count_96 : decode cX7_count 96 = .ok (.aload_n 0, 1) := by decide +kernel
theorem dX7_count_97 : decode cX7_count 97 = .ok (.getfield 7, 3) := by decide +kernel
theorem dX7_count_100 : decode cX7_count 100 = .ok (.bipush 9, 2) := by decide +kernel
theorem dX7_count_102 : decode cX7_count 102 = .ok (.iaload, 1) := by decide +kernel
theorem dX7_count_103 : decode cX7_count 103 = .ok (.ireturn, 1) := by decide +kernel
theorem dX7_count_104 : decode cX7_count 104 = .ok (.aload_n 0, 1) := by decide +kernel
theorem dX7_count_105 : decode cX7_count 105 = .ok (.getfield 7, 3) := by decide +kernel
theorem dX7_count_108 : decode cX7_count 108 = .ok (.bipush 10, 2) := by decide +kernel
theorem dX7_count_110 : decode cX7_count 110 = .ok (.iaload, 1) := by decide +kernel
theorem dX7_count_111 : decode cX7_count 111 = .ok (.ireturn, 1) := by decide +kernel
theorem dX7_count_112 : decode cX7_count 112 = .ok (.aload_n 0, 1) := by decide +kernel
theorem dX7_count_113 : decode cX7_count 113 = .ok (.invokevirtual 102, 3) := by decide +kernel
theorem dX7_count_116 : decode cX7_count 116 = .ok (.ireturn, 1) := by decide +kernel
theorem dX7_count_117 : decode cX7_count 117 = .ok (.aload_n 0, 1) := by decide +kernel
theorem dX7_count_118 : decode cX7_count 118 = .ok (.invokevirtual 89, 3) := by decide +kernel
theorem dX7_count_121 : decode cX7_count 121 = .ok (.ireturn, 1) := by decide +kernel
theorem dX7_count_122 : decode cX7_count 122 = .ok (.aload_n 0, 1) := by decide +kernel
theorem dX7_count_123 : decode cX7_count 123 = .ok (.getfield 7, 3) := by decide +kernel
theorem dX7_count_126 : decode cX7_count 126 = .ok (.bipush 11, 2) := by decide +kernel
theorem dX7_count_128 : decode cX7_count 128 = .ok (.iaload, 1) := by decide +kernel
theorem dX7_count_129 : decode cX7_count 129 = .ok (.ireturn, 1) := by decide +kernel
theorem dX7_count_130 : decode cX7_count 130 = .ok (.aload_n 0, 1) := by decide +kernel
theorem dX7_count_131 : decode cX7_count 131 = .ok (.getfield 7, 3) := by decide +kernel
theorem dX7_count_134 : decode cX7_count 134 = .ok (.bipush 12, 2) := by decide +kernel
theorem dX7_count_136 : decode cX7_count 136 = .ok (.iaload, 1) := by decide +kernel
theorem dX7_count_137 : decode cX7_count 137 = .ok (.ireturn, 1) := by decide +kernel
theorem dX7_count_138 : decode cX7_count 138 = .ok (.aload_n 0, 1) := by decide +kernel
theorem dX7_count_139 : decode cX7_count 139 = .ok (.invokevirtual 105, 3) := by decide +kernel
theorem dX7_count_142 : decode cX7_count 142 = .ok (.ireturn, 1) := by decide +kernel
theorem dX7_count_143 : decode cX7_count 143 = .ok (.aload_n 0, 1) := by decide +kernel
theorem dX7_count_144 : decode cX7_count 144 = .ok (.getfield 7, 3) := by decide +kernel
theorem dX7_count_147 : decode cX7_count 147 = .ok (.bipush 13, 2) := by decide +kernel
theorem dX7_count_149 : decode cX7_count 149 = .ok (.iaload, 1) := by decide +kernel
theorem dX7_count_150 : decode cX7_count 150 = .ok (.ireturn, 1) := by decide +kernel
theorem dX7_count_151 : decode cX7_count 151 = .ok (.aload_n 0, 1) := by decide +kernel
theorem dX7_count_152 : decode cX7_count 152 = .ok (.getfield 108, 3) := by decide +kernel
theorem dX7_count_155 : decode cX7_count 155 = .ok (.ireturn, 1) := by decide +kernel
theorem dX7_count_156 : decode cX7_count 156 = .ok (.iload_n 1, 1) := by decide +kernel
theorem dX7_count_157 : decode cX7_count 157 = .ok (.bipush 11, 2) := by decide +kernel
theorem dX7_count_159 : decode cX7_count 159 = .ok (.if_icmp .ne 10, 3) := by decide +kernel
theorem dX7_count_162 : decode cX7_count 162 = .ok (.aload_n 0, 1) := by decide +kernel
theorem dX7_count_163 : decode cX7_count 163 = .ok (.getfield 36, 3) := by decide +kernel
theorem dX7_count_166 : decode cX7_count 166 = .ok (.goto 5, 3) := by decide +kernel
theorem dX7_count_169 : decode cX7_count 169 = .ok (.bipush (-2), 2) := by decide +kernel
theorem dX7_count_171 : decode cX7_count 171 = .ok (.ireturn, 1) := by decide +kernel
theorem dX7_beginsWithin_0 : decode cX7_beginsWithin 0 = .ok (.aload_n 0, 1) := by decide +kernel
theorem dX7_beginsWithin_1 : decode cX7_beginsWithin 1 = .ok (.iload_n 1, 1) := by decide +kernel
theorem dX7_beginsWithin_2 : decode cX7_beginsWithin 2 = .ok (.bipush 10, 2) := by decide +kernel
theorem dX7_beginsWithin_4 : decode cX7_beginsWithin 4 = .ok (.invokevirtual 61, 3) := by decide +kernel
theorem dX7_beginsWithin_7 : decode cX7_beginsWithin 7 = .ok (.istore_n 3, 1) := by decide +kernel
theorem dX7_beginsWithin_8 : decode cX7_beginsWithin 8 = .ok (.iconst 0, 1) := by decide +kernel
theorem dX7_beginsWithin_9 : decode cX7_beginsWithin 9 = .ok (.istore 4, 2) := by decide +kernel
theorem dX7_beginsWithin_11 : decode cX7_beginsWithin 11 = .ok (.iload 4, 2) := by decide +kernel
theorem dX7_beginsWithin_13 : decode cX7_beginsWithin 13 = .ok (.iload_n 2, 1) := by decide +kernel
theorem dX7_beginsWithin_14 : decode cX7_beginsWithin 14 = .ok (.if_icmp .ge 27, 3) := by decide +kernel
theorem dX7_beginsWithin_17 : decode cX7_beginsWithin 17 = .ok (.aload_n 0, 1) := by decide +kernel
theorem dX7_beginsWithin_18 : decode cX7_beginsWithin 18 = .ok (.invokevirtual 99, 3) := by decide +kernel
theorem dX7_beginsWithin_21 : decode cX7_beginsWithin 21 = .ok (.aload_n 0, 1) := by decide +kernel
theorem dX7_beginsWithin_22 : decode cX7_beginsWithin 22 = .ok (.iload_n 1, 1) := by decide +kernel
theorem dX7_beginsWithin_23 : decode cX7_beginsWithin 23 = .ok (.bipush 10, 2) := by decide +kernel
theorem dX7_beginsWithin_25 : decode cX7_beginsWithin 25 = .ok (.invokevirtual 61, 3) := by decide +kernel
theorem dX7_beginsWithin_28 : decode cX7_beginsWithin 28 = .ok (.iload_n 3, 1) := by decide +kernel
theorem dX7_beginsWithin_29 : decode cX7_beginsWithin 29 = .ok (.if_icmp .le 6, 3) := by decide +kernel
theorem dX7_beginsWithin_32 : decode cX7_beginsWithin 32 = .ok (.iload 4, 2) := by decide +kernel
theorem dX7_beginsWithin_34 : decode cX7_beginsWithin 34 = .ok (.ireturn, 1) := by decide +kernel
theorem dX7_beginsWithin_35 : decode cX7_beginsWithin 35 = .ok (.iinc 4 1, 3) := by decide +kernel
theorem dX7_beginsWithin_38 : decode cX7_beginsWithin 38 = .ok (.goto (-27), 3) := by decide +kernel
theorem dX7_beginsWithin_41 : decode cX7_beginsWithin 41 = .ok (.bipush (-6), 2) := by decide +kernel
theorem dX7_beginsWithin_43 : decode cX7_beginsWithin 43 = .ok (.ireturn, 1) := by decide +kernel
theorem dX7_beginsIn_0 : decode cX7_beginsIn 0 = .ok (.aload_n 0, 1) := by decide +kernel
theorem dX7_beginsIn_1 : decode cX7_beginsIn 1 = .ok (.iload_n 1, 1) := by decide +kernel
theorem dX7_beginsIn_2 : decode cX7_beginsIn 2 = .ok (.invokevirtual 57, 3) := by decide +kernel
theorem dX7_beginsIn_5 : decode cX7_beginsIn 5 = .ok (.ifCond .ne 5, 3) := by decide +kernel
theorem dX7_beginsIn_8 : decode cX7_beginsIn 8 = .ok (.iconst (-1), 1) := by decide +kernel
theorem dX7_beginsIn_9 : decode cX7_beginsIn 9 = .ok (.ireturn, 1) := by decide +kernel
theorem dX7_beginsIn_10 : decode cX7_beginsIn 10 = .ok (.aload_n 0, 1) := by decide +kernel
theorem dX7_beginsIn_11 : decode cX7_beginsIn 11 = .ok (.invokevirtual 111, 3) := by decide +kernel
theorem dX7_beginsIn_14 : decode cX7_beginsIn 14 = .ok (.aload_n 0, 1) := by decide +kernel
theorem dX7_beginsIn_15 : decode cX7_beginsIn 15 = .ok (.iload_n 1, 1) := by decide +kernel
theorem dX7_beginsIn_16 : decode cX7_beginsIn 16 = .ok (.sipush 600, 3) := by decide +kernel
theorem dX7_beginsIn_19 : decode cX7_beginsIn 19 = .ok (.invokevirtual 114, 3) := by decide +kernel
theorem dX7_beginsIn_22 : decode cX7_beginsIn 22 = .ok (.istore_n 2, 1) := by decide +kernel
theorem dX7_beginsIn_23 : decode cX7_beginsIn 23 = .ok (.aload_n 0, 1) := by decide +kernel
theorem dX7_beginsIn_24 : decode cX7_beginsIn 24 = .ok (.invokevirtual 117, 3) := by decide +kernel
theorem dX7_beginsIn_27 : decode cX7_beginsIn 27 = .ok (.iload_n 2, 1) := by decide +kernel
theorem dX7_beginsIn_28 : decode cX7_beginsIn 28 = .ok (.ireturn, 1) := by decide +kernel
theorem dX7_idleIn_0 : decode cX7_idleIn 0 = .ok (.aload_n 0, 1) := by decide +kernel
theorem dX7_idleIn_1 : decode cX7_idleIn 1 = .ok (.invokevirtual 111, 3) := by decide +kernel
theorem dX7_idleIn_4 : decode cX7_idleIn 4 = .ok (.iconst 0, 1) := by decide +kernel
theorem dX7_idleIn_5 : decode cX7_idleIn 5 = .ok (.istore_n 1, 1) := by decide +kernel
theorem dX7_idleIn_6 : decode cX7_idleIn 6 = .ok (.aload_n 0, 1) := by decide +kernel
theorem dX7_idleIn_7 : decode cX7_idleIn 7 = .ok (.getfield 7, 3) := by decide +kernel
theorem dX7_idleIn_10 : decode cX7_idleIn 10 = .ok (.bipush 10, 2) := by decide +kernel
theorem dX7_idleIn_12 : decode cX7_idleIn 12 = .ok (.iaload, 1) := by decide +kernel
theorem dX7_idleIn_13 : decode cX7_idleIn 13 = .ok (.ifCond .le 20, 3) := by decide +kernel
theorem dX7_idleIn_16 : decode cX7_idleIn 16 = .ok (.iload_n 1, 1) := by decide +kernel
theorem dX7_idleIn_17 : decode cX7_idleIn 17 = .ok (.sipush 600, 3) := by decide +kernel
theorem dX7_idleIn_20 : decode cX7_idleIn 20 = .ok (.if_icmp .ge 13, 3) := by decide +kernel
theorem dX7_idleIn_23 : decode cX7_idleIn 23 = .ok (.aload_n 0, 1) := by decide +kernel
theorem dX7_idleIn_24 : decode cX7_idleIn 24 = .ok (.invokevirtual 99, 3) := by decide +kernel
theorem dX7_idleIn_27 : decode cX7_idleIn 27 = .ok (.iinc 1 1, 3) := by decide +kernel
theorem dX7_idleIn_30 : decode cX7_idleIn 30 = .ok (.goto (-24), 3) := by decide +kernel
theorem dX7_idleIn_33 : decode cX7_idleIn 33 = .ok (.aload_n 0, 1) := by decide +kernel
theorem dX7_idleIn_34 : decode cX7_idleIn 34 = .ok (.getfield 7, 3) := by decide +kernel
theorem dX7_idleIn_37 : decode cX7_idleIn 37 = .ok (.bipush 10, 2) := by decide +kernel
theorem dX7_idleIn_39 : decode cX7_idleIn 39 = .ok (.iaload, 1) := by decide +kernel
theorem dX7_idleIn_40 : decode cX7_idleIn 40 = .ok (.ifCond .ne 7, 3) := by decide +kernel
theorem dX7_idleIn_43 : decode cX7_idleIn 43 = .ok (.iload_n 1, 1) := by decide +kernel
theorem dX7_idleIn_44 : decode cX7_idleIn 44 = .ok (.goto 5, 3) := by decide +kernel
theorem dX7_idleIn_47 : decode cX7_idleIn 47 = .ok (.bipush (-6), 2) := by decide +kernel
theorem dX7_idleIn_49 : decode cX7_idleIn 49 = .ok (.istore_n 2, 1) := by decide +kernel
theorem dX7_idleIn_50 : decode cX7_idleIn 50 = .ok (.aload_n 0, 1) := by decide +kernel
theorem dX7_idleIn_51 : decode cX7_idleIn 51 = .ok (.invokevirtual 117, 3) := by decide +kernel
theorem dX7_idleIn_54 : decode cX7_idleIn 54 = .ok (.iload_n 2, 1) := by decide +kernel
theorem dX7_idleIn_55 : decode cX7_idleIn 55 = .ok (.ireturn, 1) := by decide +kernel
theorem dX7_missesIn_0 : decode cX7_missesIn 0 = .ok (.iload_n 1, 1) := by decide +kernel
theorem dX7_missesIn_1 : decode cX7_missesIn 1 = .ok (.iconst 1, 1) := by decide +kernel
theorem dX7_missesIn_2 : decode cX7_missesIn 2 = .ok (.sipush 500, 3) := by decide +kernel
theorem dX7_missesIn_5 : decode cX7_missesIn 5 = .ok (.invokestatic 40, 3) := by decide +kernel
theorem dX7_missesIn_8 : decode cX7_missesIn 8 = .ok (.ifCond .ne 6, 3) := by decide +kernel
theorem dX7_missesIn_11 : decode cX7_missesIn 11 = .ok (.bipush (-2), 2) := by decide +kernel
theorem dX7_missesIn_13 : decode cX7_missesIn 13 = .ok (.ireturn, 1) := by decide +kernel
theorem dX7_missesIn_14 : decode cX7_missesIn 14 = .ok (.aload_n 0, 1) := by decide +kernel
theorem dX7_missesIn_15 : decode cX7_missesIn 15 = .ok (.invokevirtual 111, 3) := by decide +kernel
theorem dX7_missesIn_18 : decode cX7_missesIn 18 = .ok (.aload_n 0, 1) := by decide +kernel
theorem dX7_missesIn_19 : decode cX7_missesIn 19 = .ok (.invokevirtual 105, 3) := by decide +kernel
theorem dX7_missesIn_22 : decode cX7_missesIn 22 = .ok (.istore_n 2, 1) := by decide +kernel
theorem dX7_missesIn_23 : decode cX7_missesIn 23 = .ok (.iconst 0, 1) := by decide +kernel
theorem dX7_missesIn_24 : decode cX7_missesIn 24 = .ok (.istore_n 3, 1) := by decide +kernel
theorem dX7_missesIn_25 : decode cX7_missesIn 25 = .ok (.iload_n 3, 1) := by decide +kernel
theorem dX7_missesIn_26 : decode cX7_missesIn 26 = .ok (.iload_n 1, 1) := by decide +kernel
theorem dX7_missesIn_27 : decode cX7_missesIn 27 = .ok (.if_icmp .ge 13, 3) := by decide +kernel
theorem dX7_missesIn_30 : decode cX7_missesIn 30 = .ok (.aload_n 0, 1) := by decide +kernel
theorem dX7_missesIn_31 : decode cX7_missesIn 31 = .ok (.invokevirtual 99, 3) := by decide +kernel
theorem dX7_missesIn_34 : decode cX7_missesIn 34 = .ok (.iinc 3 1, 3) := by decide +kernel
theorem dX7_missesIn_37 : decode cX7_missesIn 37 = .ok (.goto (-12), 3) := by decide +kernel
theorem dX7_missesIn_40 : decode cX7_missesIn 40 = .ok (.aload_n 0, 1) := by decide +kernel
theorem dX7_missesIn_41 : decode cX7_missesIn 41 = .ok (.invokevirtual 105, 3) := by decide +kernel
theorem dX7_missesIn_44 : decode cX7_missesIn 44 = .ok (.iload_n 2, 1) := by decide +kernel
theorem dX7_missesIn_45 : decode cX7_missesIn 45 = .ok (.isub, 1) := by decide +kernel
theorem dX7_missesIn_46 : decode cX7_missesIn 46 = .ok (.istore_n 3, 1) := by decide +kernel
theorem dX7_missesIn_47 : decode cX7_missesIn 47 = .ok (.aload_n 0, 1) := by decide +kernel
theorem dX7_missesIn_48 : decode cX7_missesIn 48 = .ok (.invokevirtual 117, 3) := by decide +kernel
theorem dX7_missesIn_51 : decode cX7_missesIn 51 = .ok (.iload_n 3, 1) := by decide +kernel
theorem dX7_missesIn_52 : decode cX7_missesIn 52 = .ok (.ireturn, 1) := by decide +kernel
theorem dX7_greatestBar_0 : decode cX7_greatestBar 0 = .ok (.aload_n 0, 1) := by decide +kernel
theorem dX7_greatestBar_1 : decode cX7_greatestBar 1 = .ok (.iload_n 1, 1) := by decide +kernel
theorem dX7_greatestBar_2 : decode cX7_greatestBar 2 = .ok (.invokevirtual 57, 3) := by decide +kernel
theorem dX7_greatestBar_5 : decode cX7_greatestBar 5 = .ok (.ifCond .ne 5, 3) := by decide +kernel
theorem dX7_greatestBar_8 : decode cX7_greatestBar 8 = .ok (.iconst (-1), 1) := by decide +kernel
theorem dX7_greatestBar_9 : decode cX7_greatestBar 9 = .ok (.ireturn, 1) := by decide +kernel
theorem dX7_greatestBar_10 : decode cX7_greatestBar 10 = .ok (.iload_n 2, 1) := by decide +kernel
theorem dX7_greatestBar_11 : decode cX7_greatestBar 11 = .ok (.iconst 1, 1) := by decide +kernel
theorem dX7_greatestBar_12 : decode cX7_greatestBar 12 = .ok (.sipush 200, 3) := by decide +kernel
theorem dX7_greatestBar_15 : decode cX7_greatestBar 15 = .ok (.invokestatic 40, 3) := by decide +kernel
theorem dX7_greatestBar_18 : decode cX7_greatestBar 18 = .ok (.ifCond .ne 6, 3) := by decide +kernel
theorem dX7_greatestBar_21 : decode cX7_greatestBar 21 = .ok (.bipush (-2), 2) := by decide +kernel
theorem dX7_greatestBar_23 : decode cX7_greatestBar 23 = .ok (.ireturn, 1) := by decide +kernel
theorem dX7_greatestBar_24 : decode cX7_greatestBar 24 = .ok (.aload_n 0, 1) := by decide +kernel
theorem dX7_greatestBar_25 : decode cX7_greatestBar 25 = .ok (.invokevirtual 111, 3) := by decide +kernel
theorem dX7_greatestBar_28 : decode cX7_greatestBar 28 = .ok (.bipush 32, 2) := by decide +kernel
theorem dX7_greatestBar_30 : decode cX7_greatestBar 30 = .ok (.istore_n 3, 1) := by decide +kernel
theorem dX7_greatestBar_31 : decode cX7_greatestBar 31 = .ok (.iconst 1, 1) := by decide +kernel
theorem dX7_greatestBar_32 : decode cX7_greatestBar 32 = .ok (.istore 4, 2) := by decide +kernel
theorem dX7_greatestBar_34 : decode cX7_greatestBar 34 = .ok (.iload 4, 2) := by decide +kernel
theorem dX7_greatestBar_36 : decode cX7_greatestBar 36 = .ok (.ifCond .eq 41, 3) := by decide +kernel
theorem dX7_greatestBar_39 : decode cX7_greatestBar 39 = .ok (.iload_n 3, 1) := by decide +kernel
theorem dX7_greatestBar_40 : decode cX7_greatestBar 40 = .ok (.ifCond .le 37, 3) := by decide +kernel
theorem dX7_greatestBar_43 : decode cX7_greatestBar 43 = .ok (.iinc 3 (-1), 3) := by decide +kernel
theorem dX7_greatestBar_46 : decode cX7_greatestBar 46 = .ok (.aload_n 0, 1) := by decide +kernel
theorem dX7_greatestBar_47 : decode cX7_greatestBar 47 = .ok (.getfield 7, 3) := by decide +kernel
theorem dX7_greatestBar_50 : decode cX7_greatestBar 50 = .ok (.bipush 6, 2) := by decide +kernel
theorem dX7_greatestBar_52 : decode cX7_greatestBar 52 = .ok (.iload_n 3, 1) := by decide +kernel
theorem dX7_greatestBar_53 : decode cX7_greatestBar 53 = .ok (.iastore, 1) := by decide +kernel
theorem dX7_greatestBar_54 : decode cX7_greatestBar 54 = .ok (.aload_n 0, 1) := by decide +kernel
theorem dX7_greatestBar_55 : decode cX7_greatestBar 55 = .ok (.iload_n 1, 1) := by decide +kernel
theorem dX7_greatestBar_56 : decode cX7_greatestBar 56 = .ok (.iload_n 2, 1) := by decide +kernel
theorem dX7_greatestBar_57 : decode cX7_greatestBar 57 = .ok (.invokevirtual 114, 3) := by decide +kernel
theorem dX7_greatestBar_60 : decode cX7_greatestBar 60 = .ok (.ifCond .ge 7, 3) := by decide +kernel
theorem dX7_greatestBar_63 : decode cX7_greatestBar 63 = .ok (.iconst 1, 1) := by decide +kernel
theorem dX7_greatestBar_64 : decode cX7_greatestBar 64 = .ok (.goto 4, 3) := by decide +kernel
theorem dX7_greatestBar_67 : decode cX7_greatestBar 67 = .ok (.iconst 0, 1) := by decide +kernel
theorem dX7_greatestBar_68 : decode cX7_greatestBar 68 = .ok (.istore 4, 2) := by decide +kernel
theorem dX7_greatestBar_70 : decode cX7_greatestBar 70 = .ok (.aload_n 0, 1) := by decide +kernel
theorem dX7_greatestBar_71 : decode cX7_greatestBar 71 = .ok (.invokevirtual 117, 3) := by decide +kernel
theorem dX7_greatestBar_74 : decode cX7_greatestBar 74 = .ok (.goto (-40), 3) := by decide +kernel
theorem dX7_greatestBar_77 : decode cX7_greatestBar 77 = .ok (.iload 4, 2) := by decide +kernel
theorem dX7_greatestBar_79 : decode cX7_greatestBar 79 = .ok (.ifCond .eq 8, 3) := by decide +kernel
theorem dX7_greatestBar_82 : decode cX7_greatestBar 82 = .ok (.bipush (-6), 2) := by decide +kernel
theorem dX7_greatestBar_84 : decode cX7_greatestBar 84 = .ok (.goto 4, 3) := by decide +kernel
theorem dX7_greatestBar_87 : decode cX7_greatestBar 87 = .ok (.iload_n 3, 1) := by decide +kernel
theorem dX7_greatestBar_88 : decode cX7_greatestBar 88 = .ok (.ireturn, 1) := by decide +kernel
theorem dX7_costOf_0 : decode cX7_costOf 0 = .ok (.aload_n 0, 1) := by decide +kernel
theorem dX7_costOf_1 : decode cX7_costOf 1 = .ok (.iload_n 1, 1) := by decide +kernel
theorem dX7_costOf_2 : decode cX7_costOf 2 = .ok (.iconst 1, 1) := by decide +kernel
theorem dX7_costOf_3 : decode cX7_costOf 3 = .ok (.invokevirtual 61, 3) := by decide +kernel
theorem dX7_costOf_6 : decode cX7_costOf 6 = .ok (.aload_n 0, 1) := by decide +kernel
theorem dX7_costOf_7 : decode cX7_costOf 7 = .ok (.getfield 7, 3) := by decide +kernel
theorem dX7_costOf_10 : decode cX7_costOf 10 = .ok (.iconst 4, 1) := by decide +kernel
theorem dX7_costOf_11 : decode cX7_costOf 11 = .ok (.iaload, 1) := by decide +kernel
theorem dX7_costOf_12 : decode cX7_costOf 12 = .ok (.iadd, 1) := by decide +kernel
theorem dX7_costOf_13 : decode cX7_costOf 13 = .ok (.ireturn, 1) := by decide +kernel
theorem dX7_bound_0 : decode cX7_bound 0 = .ok (.aload_n 0, 1) := by decide +kernel
theorem dX7_bound_1 : decode cX7_bound 1 = .ok (.iload_n 1, 1) := by decide +kernel
theorem dX7_bound_2 : decode cX7_bound 2 = .ok (.invokevirtual 57, 3) := by decide +kernel
theorem dX7_bound_5 : decode cX7_bound 5 = .ok (.ifCond .ne 5, 3) := by decide +kernel
theorem dX7_bound_8 : decode cX7_bound 8 = .ok (.iconst (-1), 1) := by decide +kernel
theorem dX7_bound_9 : decode cX7_bound 9 = .ok (.ireturn, 1) := by decide +kernel
theorem dX7_bound_10 : decode cX7_bound 10 = .ok (.iconst 0, 1) := by decide +kernel
theorem dX7_bound_11 : decode cX7_bound 11 = .ok (.istore_n 2, 1) := by decide +kernel
theorem dX7_bound_12 : decode cX7_bound 12 = .ok (.iconst 0, 1) := by decide +kernel
theorem dX7_bound_13 : decode cX7_bound 13 = .ok (.istore_n 3, 1) := by decide +kernel
theorem dX7_bound_14 : decode cX7_bound 14 = .ok (.iload_n 3, 1) := by decide +kernel
theorem dX7_bound_15 : decode cX7_bound 15 = .ok (.aload_n 0, 1) := by decide +kernel
theorem dX7_bound_16 : decode cX7_bound 16 = .ok (.getfield 7, 3) := by decide +kernel
theorem dX7_bound_19 : decode cX7_bound 19 = .ok (.bipush 8, 2) := by decide +kernel
theorem dX7_bound_21 : decode cX7_bound 21 = .ok (.iaload, 1) := by decide +kernel
theorem dX7_bound_22 : decode cX7_bound 22 = .ok (.if_icmp .ge 43, 3) := by decide +kernel
theorem dX7_bound_25 : decode cX7_bound 25 = .ok (.aload_n 0, 1) := by decide +kernel
theorem dX7_bound_26 : decode cX7_bound 26 = .ok (.iload_n 3, 1) := by decide +kernel
theorem dX7_bound_27 : decode cX7_bound 27 = .ok (.iconst 0, 1) := by decide +kernel
theorem dX7_bound_28 : decode cX7_bound 28 = .ok (.invokevirtual 61, 3) := by decide +kernel
theorem dX7_bound_31 : decode cX7_bound 31 = .ok (.aload_n 0, 1) := by decide +kernel
theorem dX7_bound_32 : decode cX7_bound 32 = .ok (.iload_n 1, 1) := by decide +kernel
theorem dX7_bound_33 : decode cX7_bound 33 = .ok (.iconst 0, 1) := by decide +kernel
theorem dX7_bound_34 : decode cX7_bound 34 = .ok (.invokevirtual 61, 3) := by decide +kernel
theorem dX7_bound_37 : decode cX7_bound 37 = .ok (.if_icmp .ge 20, 3) := by decide +kernel
theorem dX7_bound_40 : decode cX7_bound 40 = .ok (.aload_n 0, 1) := by decide +kernel
theorem dX7_bound_41 : decode cX7_bound 41 = .ok (.iload_n 3, 1) := by decide +kernel
theorem dX7_bound_42 : decode cX7_bound 42 = .ok (.invokevirtual 120, 3) := by decide +kernel
theorem dX7_bound_45 : decode cX7_bound 45 = .ok (.iload_n 2, 1) := by decide +kernel
theorem dX7_bound_46 : decode cX7_bound 46 = .ok (.if_icmp .le 11, 3) := by decide +kernel
theorem dX7_bound_49 : decode cX7_bound 49 = .ok (.aload_n 0, 1) := by decide +kernel
theorem dX7_bound_50 : decode cX7_bound 50 = .ok (.iload_n 3, 1) := by decide +kernel
theorem dX7_bound_51 : decode cX7_bound 51 = .ok (.invokevirtual 120, 3) := by decide +kernel
theorem dX7_bound_54 : decode cX7_bound 54 = .ok (.goto 4, 3) := by decide +kernel
theorem dX7_bound_57 : decode cX7_bound 57 = .ok (.iload_n 2, 1) := by decide +kernel
theorem dX7_bound_58 : decode cX7_bound 58 = .ok (.istore_n 2, 1) := by decide +kernel
theorem dX7_bound_59 : decode cX7_bound 59 = .ok (.iinc 3 1, 3) := by decide +kernel
theorem dX7_bound_62 : decode cX7_bound 62 = .ok (.goto (-48), 3) := by decide +kernel
theorem dX7_bound_65 : decode cX7_bound 65 = .ok (.iconst 1, 1) := by decide +kernel
theorem dX7_bound_66 : decode cX7_bound 66 = .ok (.istore_n 3, 1) := by decide +kernel
theorem dX7_bound_67 : decode cX7_bound 67 = .ok (.iload_n 3, 1) := by decide +kernel
theorem dX7_bound_68 : decode cX7_bound 68 = .ok (.sipush 3000, 3) := by decide +kernel
theorem dX7_bound_71 : decode cX7_bound 71 = .ok (.if_icmp .gt 143, 3) := by decide +kernel
theorem dX7_bound_74 : decode cX7_bound 74 = .ok (.iload_n 2, 1) := by decide +kernel
theorem dX7_bound_75 : decode cX7_bound 75 = .ok (.aload_n 0, 1) := by decide +kernel
theorem dX7_bound_76 : decode cX7_bound 76 = .ok (.iload_n 1, 1) := by decide +kernel
theorem dX7_bound_77 : decode cX7_bound 77 = .ok (.invokevirtual 120, 3) := by decide +kernel
theorem dX7_bound_80 : decode cX7_bound 80 = .ok (.iadd, 1) := by decide +kernel
theorem dX7_bound_81 : decode cX7_bound 81 = .ok (.istore 4, 2) := by decide +kernel
theorem dX7_bound_83 : decode cX7_bound 83 = .ok (.sipush 260, 3) := by decide +kernel
theorem dX7_bound_86 : decode cX7_bound 86 = .ok (.istore 5, 2) := by decide +kernel
theorem dX7_bound_88 : decode cX7_bound 88 = .ok (.iload 5, 2) := by decide +kernel
theorem dX7_bound_90 : decode cX7_bound 90 = .ok (.sipush 260, 3) := by decide +kernel
theorem dX7_bound_93 : decode cX7_bound 93 = .ok (.iconst 3, 1) := by decide +kernel
theorem dX7_bound_94 : decode cX7_bound 94 = .ok (.aload_n 0, 1) := by decide +kernel
theorem dX7_bound_95 : decode cX7_bound 95 = .ok (.getfield 7, 3) := by decide +kernel
theorem dX7_bound_98 : decode cX7_bound 98 = .ok (.bipush 9, 2) := by decide +kernel
theorem dX7_bound_100 : decode cX7_bound 100 = .ok (.iaload, 1) := by decide +kernel
theorem dX7_bound_101 : decode cX7_bound 101 = .ok (.imul, 1) := by decide +kernel
theorem dX7_bound_102 : decode cX7_bound 102 = .ok (.iadd, 1) := by decide +kernel
theorem dX7_bound_103 : decode cX7_bound 103 = .ok (.if_icmp .ge 97, 3) := by decide +kernel
theorem dX7_bound_106 : decode cX7_bound 106 = .ok (.aload_n 0, 1) := by decide +kernel
theorem dX7_bound_107 : decode cX7_bound 107 = .ok (.getfield 7, 3) := by decide +kernel
theorem dX7_bound_110 : decode cX7_bound 110 = .ok (.iload 5, 2) := by decide +kernel
theorem dX7_bound_112 : decode cX7_bound 112 = .ok (.iaload, 1) := by decide +kernel
theorem dX7_bound_113 : decode cX7_bound 113 = .ok (.iload_n 1, 1) := by decide +kernel
theorem dX7_bound_114 : decode cX7_bound 114 = .ok (.if_icmp .eq 28, 3) := by decide +kernel
theorem dX7_bound_117 : decode cX7_bound 117 = .ok (.aload_n 0, 1) := by decide +kernel
theorem dX7_bound_118 : decode cX7_bound 118 = .ok (.aload_n 0, 1) := by decide +kernel
theorem dX7_bound_119 : decode cX7_bound 119 = .ok (.getfield 7, 3) := by decide +kernel
theorem dX7_bound_122 : decode cX7_bound 122 = .ok (.iload 5, 2) := by decide +kernel
theorem dX7_bound_124 : decode cX7_bound 124 = .ok (.iaload, 1) := by decide +kernel
theorem dX7_bound_125 : decode cX7_bound 125 = .ok (.iconst 0, 1) := by decide +kernel
theorem dX7_bound_126 : decode cX7_bound 126 = .ok (.invokevirtual 61, 3) := by decide +kernel
theorem dX7_bound_129 : decode cX7_bound 129 = .ok (.aload_n 0, 1) := by decide +kernel
theorem dX7_bound_130 : decode cX7_bound 130 = .ok (.iload_n 1, 1) := by decide +kernel
theorem dX7_bound_131 : decode cX7_bound 131 = .ok (.iconst 0, 1) := by decide +kernel
theorem dX7_bound_132 : decode cX7_bound 132 = .ok (.invokevirtual 61, 3) := by decide +kernel
theorem dX7_bound_135 : decode cX7_bound 135 = .ok (.if_icmp .lt 7, 3) := by decide +kernel
theorem dX7_bound_138 : decode cX7_bound 138 = .ok (.iconst 1, 1) := by decide +kernel
theorem dX7_bound_139 : decode cX7_bound 139 = .ok (.goto 4, 3) := by decide +kernel
theorem dX7_bound_142 : decode cX7_bound 142 = .ok (.iconst 0, 1) := by decide +kernel
theorem dX7_bound_143 : decode cX7_bound 143 = .ok (.istore 6, 2) := by decide +kernel
theorem dX7_bound_145 : decode cX7_bound 145 = .ok (.iload 4, 2) := by decide +kernel
theorem dX7_bound_147 : decode cX7_bound 147 = .ok (.iload 6, 2) := by decide +kernel
theorem dX7_bound_149 : decode cX7_bound 149 = .ok (.ifCond .eq 41, 3) := by decide +kernel
theorem dX7_bound_152 : decode cX7_bound 152 = .ok (.iload_n 3, 1) := by decide +kernel
theorem dX7_bound_153 : decode cX7_bound 153 = .ok (.aload_n 0, 1) := by decide +kernel
theorem dX7_bound_154 : decode cX7_bound 154 = .ok (.getfield 7, 3) := by decide +kernel
theorem dX7_bound_157 : decode cX7_bound 157 = .ok (.iload 5, 2) := by decide +kernel
theorem dX7_bound_159 : decode cX7_bound 159 = .ok (.iconst 1, 1) := by decide +kernel
theorem dX7_bound_160 : decode cX7_bound 160 = .ok (.iadd, 1) := by decide +kernel
theorem dX7_bound_161 : decode cX7_bound 161 = .ok (.iaload, 1) := by decide +kernel
theorem dX7_bound_162 : decode cX7_bound 162 = .ok (.iadd, 1) := by decide +kernel
theorem dX7_bound_163 : decode cX7_bound 163 = .ok (.iconst 1, 1) := by decide +kernel
theorem dX7_bound_164 : decode cX7_bound 164 = .ok (.isub, 1) := by decide +kernel
theorem dX7_bound_165 : decode cX7_bound 165 = .ok (.aload_n 0, 1) := by decide +kernel
theorem dX7_bound_166 : decode cX7_bound 166 = .ok (.getfield 7, 3) := by decide +kernel
theorem dX7_bound_169 : decode cX7_bound 169 = .ok (.iload 5, 2) := by decide +kernel
theorem dX7_bound_171 : decode cX7_bound 171 = .ok (.iconst 1, 1) := by decide +kernel
theorem dX7_bound_172 : decode cX7_bound 172 = .ok (.iadd, 1) := by decide +kernel
theorem dX7_bound_173 : decode cX7_bound 173 = .ok (.iaload, 1) := by decide +kernel
theorem dX7_bound_174 : decode cX7_bound 174 = .ok (.idiv, 1) := by decide +kernel
theorem dX7_bound_175 : decode cX7_bound 175 = .ok (.aload_n 0, 1) := by decide +kernel
theorem dX7_bound_176 : decode cX7_bound 176 = .ok (.aload_n 0, 1) := by decide +kernel
theorem dX7_bound_177 : decode cX7_bound 177 = .ok (.getfield 7, 3) := by decide +kernel
theorem dX7_bound_180 : decode cX7_bound 180 = .ok (.iload 5, 2) := by decide +kernel
theorem dX7_bound_182 : decode cX7_bound 182 = .ok (.iaload, 1) := by decide +kernel
theorem dX7_bound_183 : decode cX7_bound 183 = .ok (.invokevirtual 120, 3) := by decide +kernel
theorem dX7_bound_186 : decode cX7_bound 186 = .ok (.imul, 1) := by decide +kernel
theorem dX7_bound_187 : decode cX7_bound 187 = .ok (.goto 4, 3) := by decide +kernel
theorem dX7_bound_190 : decode cX7_bound 190 = .ok (.iconst 0, 1) := by decide +kernel
theorem dX7_bound_191 : decode cX7_bound 191 = .ok (.iadd, 1) := by decide +kernel
theorem dX7_bound_192 : decode cX7_bound 192 = .ok (.istore 4, 2) := by decide +kernel
theorem dX7_bound_194 : decode cX7_bound 194 = .ok (.iinc 5 3, 3) := by decide +kernel
theorem dX7_bound_197 : decode cX7_bound 197 = .ok (.goto (-109), 3) := by decide +kernel
theorem dX7_bound_200 : decode cX7_bound 200 = .ok (.iload 4, 2) := by decide +kernel
theorem dX7_bound_202 : decode cX7_bound 202 = .ok (.iload_n 3, 1) := by decide +kernel
theorem dX7_bound_203 : decode cX7_bound 203 = .ok (.if_icmp .ne 5, 3) := by decide +kernel
theorem dX7_bound_206 : decode cX7_bound 206 = .ok (.iload_n 3, 1) := by decide +kernel
theorem dX7_bound_207 : decode cX7_bound 207 = .ok (.ireturn, 1) := by decide +kernel
theorem dX7_bound_208 : decode cX7_bound 208 = .ok (.iinc 3 1, 3) := by decide +kernel
theorem dX7_bound_211 : decode cX7_bound 211 = .ok (.goto (-144), 3) := by decide +kernel
theorem dX7_bound_214 : decode cX7_bound 214 = .ok (.bipush (-6), 2) := by decide +kernel
theorem dX7_bound_216 : decode cX7_bound 216 = .ok (.ireturn, 1) := by decide +kernel
theorem dX7_load_0 : decode cX7_load 0 = .ok (.iconst 0, 1) := by decide +kernel
theorem dX7_load_1 : decode cX7_load 1 = .ok (.istore_n 1, 1) := by decide +kernel
theorem dX7_load_2 : decode cX7_load 2 = .ok (.lconst 1, 1) := by decide +kernel
theorem dX7_load_3 : decode cX7_load 3 = .ok (.lstore_n 2, 1) := by decide +kernel
theorem dX7_load_4 : decode cX7_load 4 = .ok (.sipush 260, 3) := by decide +kernel
theorem dX7_load_7 : decode cX7_load 7 = .ok (.istore 4, 2) := by decide +kernel
theorem dX7_load_9 : decode cX7_load 9 = .ok (.iload 4, 2) := by decide +kernel
theorem dX7_load_11 : decode cX7_load 11 = .ok (.sipush 260, 3) := by decide +kernel
theorem dX7_load_14 : decode cX7_load 14 = .ok (.iconst 3, 1) := by decide +kernel
theorem dX7_load_15 : decode cX7_load 15 = .ok (.aload_n 0, 1) := by decide +kernel
theorem dX7_load_16 : decode cX7_load 16 = .ok (.getfield 7, 3) := by decide +kernel
theorem dX7_load_19 : decode cX7_load 19 = .ok (.bipush 9, 2) := by decide +kernel
theorem dX7_load_21 : decode cX7_load 21 = .ok (.iaload, 1) := by decide +kernel
theorem dX7_load_22 : decode cX7_load 22 = .ok (.imul, 1) := by decide +kernel
theorem dX7_load_23 : decode cX7_load 23 = .ok (.iadd, 1) := by decide +kernel
theorem dX7_load_24 : decode cX7_load 24 = .ok (.if_icmp .ge 50, 3) := by decide +kernel
theorem dX7_load_27 : decode cX7_load 27 = .ok (.iload_n 1, 1) := by decide +kernel
theorem dX7_load_28 : decode cX7_load 28 = .ok (.sipush 1000, 3) := by decide +kernel
theorem dX7_load_31 : decode cX7_load 31 = .ok (.aload_n 0, 1) := by decide +kernel
theorem dX7_load_32 : decode cX7_load 32 = .ok (.aload_n 0, 1) := by decide +kernel
theorem dX7_load_33 : decode cX7_load 33 = .ok (.getfield 7, 3) := by decide +kernel
theorem dX7_load_36 : decode cX7_load 36 = .ok (.iload 4, 2) := by decide +kernel
theorem dX7_load_38 : decode cX7_load 38 = .ok (.iaload, 1) := by decide +kernel
theorem dX7_load_39 : decode cX7_load 39 = .ok (.invokevirtual 120, 3) := by decide +kernel
theorem dX7_load_42 : decode cX7_load 42 = .ok (.imul, 1) := by decide +kernel
theorem dX7_load_43 : decode cX7_load 43 = .ok (.aload_n 0, 1) := by decide +kernel
theorem dX7_load_44 : decode cX7_load 44 = .ok (.getfield 7, 3) := by decide +kernel
theorem dX7_load_47 : decode cX7_load 47 = .ok (.iload 4, 2) := by decide +kernel
theorem dX7_load_49 : decode cX7_load 49 = .ok (.iconst 1, 1) := by decide +kernel
theorem dX7_load_50 : decode cX7_load 50 = .ok (.iadd, 1) := by decide +kernel
theorem dX7_load_51 : decode cX7_load 51 = .ok (.iaload, 1) := by decide +kernel
theorem dX7_load_52 : decode cX7_load 52 = .ok (.idiv, 1) := by decide +kernel
theorem dX7_load_53 : decode cX7_load 53 = .ok (.iadd, 1) := by decide +kernel
theorem dX7_load_54 : decode cX7_load 54 = .ok (.istore_n 1, 1) := by decide +kernel
theorem dX7_load_55 : decode cX7_load 55 = .ok (.lload_n 2, 1) := by decide +kernel
theorem dX7_load_56 : decode cX7_load 56 = .ok (.aload_n 0, 1) := by decide +kernel
theorem dX7_load_57 : decode cX7_load 57 = .ok (.getfield 7, 3) := by decide +kernel
theorem dX7_load_60 : decode cX7_load 60 = .ok (.iload 4, 2) := by decide +kernel
theorem dX7_load_62 : decode cX7_load 62 = .ok (.iconst 1, 1) := by decide +kernel
theorem dX7_load_63 : decode cX7_load 63 = .ok (.iadd, 1) := by decide +kernel
theorem dX7_load_64 : decode cX7_load 64 = .ok (.iaload, 1) := by decide +kernel
theorem dX7_load_65 : decode cX7_load 65 = .ok (.i2l, 1) := by decide +kernel
theorem dX7_load_66 : decode cX7_load 66 = .ok (.lmul, 1) := by decide +kernel
theorem dX7_load_67 : decode cX7_load 67 = .ok (.lstore_n 2, 1) := by decide +kernel
theorem dX7_load_68 : decode cX7_load 68 = .ok (.iinc 4 3, 3) := by decide +kernel
theorem dX7_load_71 : decode cX7_load 71 = .ok (.goto (-62), 3) := by decide +kernel
theorem dX7_load_74 : decode cX7_load 74 = .ok (.lconst 0, 1) := by decide +kernel
theorem dX7_load_75 : decode cX7_load 75 = .ok (.lstore 4, 2) := by decide +kernel
theorem dX7_load_77 : decode cX7_load 77 = .ok (.sipush 260, 3) := by decide +kernel
theorem dX7_load_80 : decode cX7_load 80 = .ok (.istore 6, 2) := by decide +kernel
theorem dX7_load_82 : decode cX7_load 82 = .ok (.iload 6, 2) := by decide +kernel
theorem dX7_load_84 : decode cX7_load 84 = .ok (.sipush 260, 3) := by decide +kernel
theorem dX7_load_87 : decode cX7_load 87 = .ok (.iconst 3, 1) := by decide +kernel
theorem dX7_load_88 : decode cX7_load 88 = .ok (.aload_n 0, 1) := by decide +kernel
theorem dX7_load_89 : decode cX7_load 89 = .ok (.getfield 7, 3) := by decide +kernel
theorem dX7_load_92 : decode cX7_load 92 = .ok (.bipush 9, 2) := by decide +kernel
theorem dX7_load_94 : decode cX7_load 94 = .ok (.iaload, 1) := by decide +kernel
theorem dX7_load_95 : decode cX7_load 95 = .ok (.imul, 1) := by decide +kernel
theorem dX7_load_96 : decode cX7_load 96 = .ok (.iadd, 1) := by decide +kernel
theorem dX7_load_97 : decode cX7_load 97 = .ok (.if_icmp .ge 53, 3) := by decide +kernel
theorem dX7_load_100 : decode cX7_load 100 = .ok (.lload 4, 2) := by decide +kernel
theorem dX7_load_102 : decode cX7_load 102 = .ok (.sipush 1000, 3) := by decide +kernel
theorem dX7_load_105 : decode cX7_load 105 = .ok (.aload_n 0, 1) := by decide +kernel
theorem dX7_load_106 : decode cX7_load 106 = .ok (.aload_n 0, 1) := by decide +kernel
theorem dX7_load_107 : decode cX7_load 107 = .ok (.getfield 7, 3) := by decide +kernel
theorem dX7_load_110 : decode cX7_load 110 = .ok (.iload 6, 2) := by decide +kernel
theorem dX7_load_112 : decode cX7_load 112 = .ok (.iaload, 1) := by decide +kernel
theorem dX7_load_113 : decode cX7_load 113 = .ok (.invokevirtual 120, 3) := by decide +kernel
theorem dX7_load_116 : decode cX7_load 116 = .ok (.imul, 1) := by decide +kernel
theorem dX7_load_117 : decode cX7_load 117 = .ok (.aload_n 0, 1) := by decide +kernel
theorem dX7_load_118 : decode cX7_load 118 = .ok (.getfield 7, 3) := by decide +kernel
theorem dX7_load_121 : decode cX7_load 121 = .ok (.iload 6, 2) := by decide +kernel
theorem dX7_load_123 : decode cX7_load 123 = .ok (.iconst 1, 1) := by decide +kernel
theorem dX7_load_124 : decode cX7_load 124 = .ok (.iadd, 1) := by decide +kernel
theorem dX7_load_125 : decode cX7_load 125 = .ok (.iaload, 1) := by decide +kernel
theorem dX7_load_126 : decode cX7_load 126 = .ok (.irem, 1) := by decide +kernel
theorem dX7_load_127 : decode cX7_load 127 = .ok (.i2l, 1) := by decide +kernel
theorem dX7_load_128 : decode cX7_load 128 = .ok (.lload_n 2, 1) := by decide +kernel
theorem dX7_load_129 : decode cX7_load 129 = .ok (.aload_n 0, 1) := by decide +kernel
theorem dX7_load_130 : decode cX7_load 130 = .ok (.getfield 7, 3) := by decide +kernel
theorem dX7_load_133 : decode cX7_load 133 = .ok (.iload 6, 2) := by decide +kernel
theorem dX7_load_135 : decode cX7_load 135 = .ok (.iconst 1, 1) := by decide +kernel
theorem dX7_load_136 : decode cX7_load 136 = .ok (.iadd, 1) := by decide +kernel
theorem dX7_load_137 : decode cX7_load 137 = .ok (.iaload, 1) := by decide +kernel
theorem dX7_load_138 : decode cX7_load 138 = .ok (.i2l, 1) := by decide +kernel
theorem dX7_load_139 : decode cX7_load 139 = .ok (.ldiv, 1) := by decide +kernel
theorem dX7_load_140 : decode cX7_load 140 = .ok (.lmul, 1) := by decide +kernel
theorem dX7_load_141 : decode cX7_load 141 = .ok (.ladd, 1) := by decide +kernel
theorem dX7_load_142 : decode cX7_load 142 = .ok (.lstore 4, 2) := by decide +kernel
theorem dX7_load_144 : decode cX7_load 144 = .ok (.iinc 6 3, 3) := by decide +kernel
theorem dX7_load_147 : decode cX7_load 147 = .ok (.goto (-65), 3) := by decide +kernel
theorem dX7_load_150 : decode cX7_load 150 = .ok (.iload_n 1, 1) := by decide +kernel
theorem dX7_load_151 : decode cX7_load 151 = .ok (.lload 4, 2) := by decide +kernel
theorem dX7_load_153 : decode cX7_load 153 = .ok (.lload_n 2, 1) := by decide +kernel
theorem dX7_load_154 : decode cX7_load 154 = .ok (.ladd, 1) := by decide +kernel
theorem dX7_load_155 : decode cX7_load 155 = .ok (.lconst 1, 1) := by decide +kernel
theorem dX7_load_156 : decode cX7_load 156 = .ok (.lsub, 1) := by decide +kernel
theorem dX7_load_157 : decode cX7_load 157 = .ok (.lload_n 2, 1) := by decide +kernel
theorem dX7_load_158 : decode cX7_load 158 = .ok (.ldiv, 1) := by decide +kernel
theorem dX7_load_159 : decode cX7_load 159 = .ok (.l2i, 1) := by decide +kernel
theorem dX7_load_160 : decode cX7_load 160 = .ok (.iadd, 1) := by decide +kernel
theorem dX7_load_161 : decode cX7_load 161 = .ok (.ireturn, 1) := by decide +kernel
theorem dX7_sign_0 : decode cX7_sign 0 = .ok (.aload_n 0, 1) := by decide +kernel
theorem dX7_sign_1 : decode cX7_sign 1 = .ok (.getfield 123, 3) := by decide +kernel
theorem dX7_sign_4 : decode cX7_sign 4 = .ok (.aload_n 0, 1) := by decide +kernel
theorem dX7_sign_5 : decode cX7_sign 5 = .ok (.getfield 108, 3) := by decide +kernel
theorem dX7_sign_8 : decode cX7_sign 8 = .ok (.if_icmp .ge 15, 3) := by decide +kernel
theorem dX7_sign_11 : decode cX7_sign 11 = .ok (.aload_n 0, 1) := by decide +kernel
theorem dX7_sign_12 : decode cX7_sign 12 = .ok (.getfield 26, 3) := by decide +kernel
theorem dX7_sign_15 : decode cX7_sign 15 = .ok (.aload_n 0, 1) := by decide +kernel
theorem dX7_sign_16 : decode cX7_sign 16 = .ok (.getfield 123, 3) := by decide +kernel
theorem dX7_sign_19 : decode cX7_sign 19 = .ok (.iaload, 1) := by decide +kernel
theorem dX7_sign_20 : decode cX7_sign 20 = .ok (.goto 4, 3) := by decide +kernel
theorem dX7_sign_23 : decode cX7_sign 23 = .ok (.iconst 0, 1) := by decide +kernel
theorem dX7_sign_24 : decode cX7_sign 24 = .ok (.ireturn, 1) := by decide +kernel
theorem dX7_one_0 : decode cX7_one 0 = .ok (.aload_n 0, 1) := by decide +kernel
theorem dX7_one_1 : decode cX7_one 1 = .ok (.invokevirtual 126, 3) := by decide +kernel
theorem dX7_one_4 : decode cX7_one 4 = .ok (.iload_n 1, 1) := by decide +kernel
theorem dX7_one_5 : decode cX7_one 5 = .ok (.isub, 1) := by decide +kernel
theorem dX7_one_6 : decode cX7_one 6 = .ok (.istore_n 3, 1) := by decide +kernel
theorem dX7_one_7 : decode cX7_one 7 = .ok (.aload_n 0, 1) := by decide +kernel
theorem dX7_one_8 : decode cX7_one 8 = .ok (.aload_n 0, 1) := by decide +kernel
theorem dX7_one_9 : decode cX7_one 9 = .ok (.getfield 129, 3) := by decide +kernel
theorem dX7_one_12 : decode cX7_one 12 = .ok (.ifCond .ne 12, 3) := by decide +kernel
theorem dX7_one_15 : decode cX7_one 15 = .ok (.iload_n 3, 1) := by decide +kernel
theorem dX7_one_16 : decode cX7_one 16 = .ok (.iconst 0, 1) := by decide +kernel
theorem dX7_one_17 : decode cX7_one 17 = .ok (.iload_n 2, 1) := by decide +kernel
theorem dX7_one_18 : decode cX7_one 18 = .ok (.invokestatic 40, 3) := by decide +kernel
theorem dX7_one_21 : decode cX7_one 21 = .ok (.ifCond .ne 7, 3) := by decide +kernel
theorem dX7_one_24 : decode cX7_one 24 = .ok (.iconst 1, 1) := by decide +kernel
theorem dX7_one_25 : decode cX7_one 25 = .ok (.goto 4, 3) := by decide +kernel
theorem dX7_one_28 : decode cX7_one 28 = .ok (.iconst 0, 1) := by decide +kernel
theorem dX7_one_29 : decode cX7_one 29 = .ok (.putfield 129, 3) := by decide +kernel
theorem dX7_one_32 : decode cX7_one 32 = .ok (.aload_n 0, 1) := by decide +kernel
theorem dX7_one_33 : decode cX7_one 33 = .ok (.dup, 1) := by decide +kernel
theorem dX7_one_34 : decode cX7_one 34 = .ok (.getfield 123, 3) := by decide +kernel
theorem dX7_one_37 : decode cX7_one 37 = .ok (.aload_n 0, 1) := by decide +kernel
theorem dX7_one_38 : decode cX7_one 38 = .ok (.getfield 129, 3) := by decide +kernel
theorem dX7_one_41 : decode cX7_one 41 = .ok (.ifCond .eq 7, 3) := by decide +kernel
theorem dX7_one_44 : decode cX7_one 44 = .ok (.iconst 0, 1) := by decide +kernel
theorem dX7_one_45 : decode cX7_one 45 = .ok (.goto 4, 3) := by decide +kernel
theorem dX7_one_48 : decode cX7_one 48 = .ok (.iconst 1, 1) := by decide +kernel
theorem dX7_one_49 : decode cX7_one 49 = .ok (.iadd, 1) := by decide +kernel
theorem dX7_one_50 : decode cX7_one 50 = .ok (.putfield 123, 3) := by decide +kernel
theorem dX7_one_53 : decode cX7_one 53 = .ok (.iload_n 3, 1) := by decide +kernel
theorem dX7_one_54 : decode cX7_one 54 = .ok (.ireturn, 1) := by decide +kernel
theorem dX7_number_0 : decode cX7_number 0 = .ok (.aload_n 0, 1) := by decide +kernel
theorem dX7_number_1 : decode cX7_number 1 = .ok (.bipush 48, 2) := by decide +kernel
theorem dX7_number_3 : decode cX7_number 3 = .ok (.bipush 9, 2) := by decide +kernel
theorem dX7_number_5 : decode cX7_number 5 = .ok (.invokevirtual 132, 3) := by decide +kernel
theorem dX7_number_8 : decode cX7_number 8 = .ok (.istore_n 1, 1) := by decide +kernel
theorem dX7_number_9 : decode cX7_number 9 = .ok (.aload_n 0, 1) := by decide +kernel
theorem dX7_number_10 : decode cX7_number 10 = .ok (.getfield 129, 3) := by decide +kernel
theorem dX7_number_13 : decode cX7_number 13 = .ok (.ifCond .ne 65, 3) := by decide +kernel
theorem dX7_number_16 : decode cX7_number 16 = .ok (.iload_n 1, 1) := by decide +kernel
theorem dX7_number_17 : decode cX7_number 17 = .ok (.ifCond .le 61, 3) := by decide +kernel
theorem dX7_number_20 : decode cX7_number 20 = .ok (.aload_n 0, 1) := by decide +kernel
theorem dX7_number_21 : decode cX7_number 21 = .ok (.invokevirtual 126, 3) := by decide +kernel
theorem dX7_number_24 : decode cX7_number 24 = .ok (.bipush 48, 2) := by decide +kernel
theorem dX7_number_26 : decode cX7_number 26 = .ok (.bipush 57, 2) := by decide +kernel
theorem dX7_number_28 : decode cX7_number 28 = .ok (.invokestatic 40, 3) := by decide +kernel
theorem dX7_number_31 : decode cX7_number 31 = .ok (.ifCond .eq 47, 3) := by decide +kernel
theorem dX7_number_34 : decode cX7_number 34 = .ok (.bipush 10, 2) := by decide +kernel
theorem dX7_number_36 : decode cX7_number 36 = .ok (.iload_n 1, 1) := by decide +kernel
theorem dX7_number_37 : decode cX7_number 37 = .ok (.imul, 1) := by decide +kernel
theorem dX7_number_38 : decode cX7_number 38 = .ok (.aload_n 0, 1) := by decide +kernel
theorem dX7_number_39 : decode cX7_number 39 = .ok (.invokevirtual 126, 3) := by decide +kernel
theorem dX7_number_42 : decode cX7_number 42 = .ok (.iadd, 1) := by decide +kernel
theorem dX7_number_43 : decode cX7_number 43 = .ok (.bipush 48, 2) := by decide +kernel
theorem dX7_number_45 : decode cX7_number 45 = .ok (.isub, 1) := by decide +kernel
theorem dX7_number_46 : decode cX7_number 46 = .ok (.sipush 999, 3) := by decide +kernel
theorem dX7_number_49 : decode cX7_number 49 = .ok (.if_icmp .gt 29, 3) := by decide +kernel
theorem dX7_number_52 : decode cX7_number 52 = .ok (.bipush 10, 2) := by decide +kernel
theorem dX7_number_54 : decode cX7_number 54 = .ok (.iload_n 1, 1) := by decide +kernel
theorem dX7_number_55 : decode cX7_number 55 = .ok (.imul, 1) := by decide +kernel
theorem dX7_number_56 : decode cX7_number 56 = .ok (.aload_n 0, 1) := by decide +kernel
theorem dX7_number_57 : decode cX7_number 57 = .ok (.invokevirtual 126, 3) := by decide +kernel
theorem dX7_number_60 : decode cX7_number 60 = .ok (.iadd, 1) := by decide +kernel
theorem dX7_number_61 : decode cX7_number 61 = .ok (.bipush 48, 2) := by decide +kernel
theorem dX7_number_63 : decode cX7_number 63 = .ok (.isub, 1) := by decide +kernel
theorem dX7_number_64 : decode cX7_number 64 = .ok (.istore_n 1, 1) := by decide +kernel
theorem dX7_number_65 : decode cX7_number 65 = .ok (.aload_n 0, 1) := by decide +kernel
theorem dX7_number_66 : decode cX7_number 66 = .ok (.dup, 1) := by decide +kernel
theorem dX7_number_67 : decode cX7_number 67 = .ok (.getfield 123, 3) := by decide +kernel
theorem dX7_number_70 : decode cX7_number 70 = .ok (.iconst 1, 1) := by decide +kernel
theorem dX7_number_71 : decode cX7_number 71 = .ok (.iadd, 1) := by decide +kernel
theorem dX7_number_72 : decode cX7_number 72 = .ok (.putfield 123, 3) := by decide +kernel
theorem dX7_number_75 : decode cX7_number 75 = .ok (.goto (-66), 3) := by decide +kernel
theorem dX7_number_78 : decode cX7_number 78 = .ok (.iload_n 1, 1) := by decide +kernel
theorem dX7_number_79 : decode cX7_number 79 = .ok (.ireturn, 1) := by decide +kernel
theorem dX7_readOne_0 : decode cX7_readOne 0 = .ok (.iconst 3, 1) := by decide +kernel
theorem dX7_readOne_1 : decode cX7_readOne 1 = .ok (.aload_n 0, 1) := by decide +kernel
theorem dX7_readOne_2 : decode cX7_readOne 2 = .ok (.getfield 135, 3) := by decide +kernel
theorem dX7_readOne_5 : decode cX7_readOne 5 = .ok (.imul, 1) := by decide +kernel
theorem dX7_readOne_6 : decode cX7_readOne 6 = .ok (.istore_n 1, 1) := by decide +kernel
theorem dX7_readOne_7 : decode cX7_readOne 7 = .ok (.aload_n 0, 1) := by decide +kernel
theorem dX7_readOne_8 : decode cX7_readOne 8 = .ok (.invokevirtual 126, 3) := by decide +kernel
theorem dX7_readOne_11 : decode cX7_readOne 11 = .ok (.istore_n 2, 1) := by decide +kernel
theorem dX7_readOne_12 : decode cX7_readOne 12 = .ok (.aload_n 0, 1) := by decide +kernel
theorem dX7_readOne_13 : decode cX7_readOne 13 = .ok (.getfield 29, 3) := by decide +kernel
theorem dX7_readOne_16 : decode cX7_readOne 16 = .ok (.iload_n 1, 1) := by decide +kernel
theorem dX7_readOne_17 : decode cX7_readOne 17 = .ok (.iload_n 2, 1) := by decide +kernel
theorem dX7_readOne_18 : decode cX7_readOne 18 = .ok (.iastore, 1) := by decide +kernel
theorem dX7_readOne_19 : decode cX7_readOne 19 = .ok (.aload_n 0, 1) := by decide +kernel
theorem dX7_readOne_20 : decode cX7_readOne 20 = .ok (.iload_n 2, 1) := by decide +kernel
theorem dX7_readOne_21 : decode cX7_readOne 21 = .ok (.bipush 117, 2) := by decide +kernel
theorem dX7_readOne_23 : decode cX7_readOne 23 = .ok (.if_icmp .eq 37, 3) := by decide +kernel
theorem dX7_readOne_26 : decode cX7_readOne 26 = .ok (.iload_n 2, 1) := by decide +kernel
theorem dX7_readOne_27 : decode cX7_readOne 27 = .ok (.bipush 104, 2) := by decide +kernel
theorem dX7_readOne_29 : decode cX7_readOne 29 = .ok (.if_icmp .eq 31, 3) := by decide +kernel
theorem dX7_readOne_32 : decode cX7_readOne 32 = .ok (.iload_n 2, 1) := by decide +kernel
theorem dX7_readOne_33 : decode cX7_readOne 33 = .ok (.bipush 108, 2) := by decide +kernel
theorem dX7_readOne_35 : decode cX7_readOne 35 = .ok (.if_icmp .eq 25, 3) := by decide +kernel
theorem dX7_readOne_38 : decode cX7_readOne 38 = .ok (.iload_n 2, 1) := by decide +kernel
theorem dX7_readOne_39 : decode cX7_readOne 39 = .ok (.bipush 109, 2) := by decide +kernel
theorem dX7_readOne_41 : decode cX7_readOne 41 = .ok (.if_icmp .eq 19, 3) := by decide +kernel
theorem dX7_readOne_44 : decode cX7_readOne 44 = .ok (.iload_n 2, 1) := by decide +kernel
theorem dX7_readOne_45 : decode cX7_readOne 45 = .ok (.bipush 110, 2) := by decide +kernel
theorem dX7_readOne_47 : decode cX7_readOne 47 = .ok (.if_icmp .eq 13, 3) := by decide +kernel
theorem dX7_readOne_50 : decode cX7_readOne 50 = .ok (.iload_n 2, 1) := by decide +kernel
theorem dX7_readOne_51 : decode cX7_readOne 51 = .ok (.bipush 116, 2) := by decide +kernel
theorem dX7_readOne_53 : decode cX7_readOne 53 = .ok (.if_icmp .eq 7, 3) := by decide +kernel
theorem dX7_readOne_56 : decode cX7_readOne 56 = .ok (.iconst 1, 1) := by decide +kernel
theorem dX7_readOne_57 : decode cX7_readOne 57 = .ok (.goto 4, 3) := by decide +kernel
theorem dX7_readOne_60 : decode cX7_readOne 60 = .ok (.iconst 0, 1) := by decide +kernel
theorem dX7_readOne_61 : decode cX7_readOne 61 = .ok (.putfield 129, 3) := by decide +kernel
theorem dX7_readOne_64 : decode cX7_readOne 64 = .ok (.aload_n 0, 1) := by decide +kernel
theorem dX7_readOne_65 : decode cX7_readOne 65 = .ok (.getfield 129, 3) := by decide +kernel
theorem dX7_readOne_68 : decode cX7_readOne 68 = .ok (.ifCond .eq 4, 3) := by decide +kernel
theorem dX7_readOne_71 : decode cX7_readOne 71 = .ok (.return_, 1) := by decide +kernel
theorem dX7_readOne_72 : decode cX7_readOne 72 = .ok (.aload_n 0, 1) := by decide +kernel
theorem dX7_readOne_73 : decode cX7_readOne 73 = .ok (.dup, 1) := by decide +kernel
theorem dX7_readOne_74 : decode cX7_readOne 74 = .ok (.getfield 123, 3) := by decide +kernel
theorem dX7_readOne_77 : decode cX7_readOne 77 = .ok (.iconst 1, 1) := by decide +kernel
theorem dX7_readOne_78 : decode cX7_readOne 78 = .ok (.iadd, 1) := by decide +kernel
theorem dX7_readOne_79 : decode cX7_readOne 79 = .ok (.putfield 123, 3) := by decide +kernel
theorem dX7_readOne_82 : decode cX7_readOne 82 = .ok (.aload_n 0, 1) := by decide +kernel
theorem dX7_readOne_83 : decode cX7_readOne 83 = .ok (.getfield 29, 3) := by decide +kernel
theorem dX7_readOne_86 : decode cX7_readOne 86 = .ok (.iload_n 1, 1) := by decide +kernel
theorem dX7_readOne_87 : decode cX7_readOne 87 = .ok (.iconst 1, 1) := by decide +kernel
theorem dX7_readOne_88 : decode cX7_readOne 88 = .ok (.iadd, 1) := by decide +kernel
theorem dX7_readOne_89 : decode cX7_readOne 89 = .ok (.iload_n 2, 1) := by decide +kernel
theorem dX7_readOne_90 : decode cX7_readOne 90 = .ok (.bipush 116, 2) := by decide +kernel
theorem dX7_readOne_92 : decode cX7_readOne 92 = .ok (.if_icmp .ne 10, 3) := by decide +kernel
theorem dX7_readOne_95 : decode cX7_readOne 95 = .ok (.aload_n 0, 1) := by decide +kernel
theorem dX7_readOne_96 : decode cX7_readOne 96 = .ok (.invokevirtual 138, 3) := by decide +kernel
theorem dX7_readOne_99 : decode cX7_readOne 99 = .ok (.goto 11, 3) := by decide +kernel
theorem dX7_readOne_102 : decode cX7_readOne 102 = .ok (.aload_n 0, 1) := by decide +kernel
theorem dX7_readOne_103 : decode cX7_readOne 103 = .ok (.bipush 65, 2) := by decide +kernel
theorem dX7_readOne_105 : decode cX7_readOne 105 = .ok (.bipush 11, 2) := by decide +kernel
theorem dX7_readOne_107 : decode cX7_readOne 107 = .ok (.invokevirtual 132, 3) := by decide +kernel
theorem dX7_readOne_110 : decode cX7_readOne 110 = .ok (.iastore, 1) := by decide +kernel
theorem dX7_readOne_111 : decode cX7_readOne 111 = .ok (.aload_n 0, 1) := by decide +kernel
theorem dX7_readOne_112 : decode cX7_readOne 112 = .ok (.getfield 29, 3) := by decide +kernel
theorem dX7_readOne_115 : decode cX7_readOne 115 = .ok (.iload_n 1, 1) := by decide +kernel
theorem dX7_readOne_116 : decode cX7_readOne 116 = .ok (.iconst 2, 1) := by decide +kernel
theorem dX7_readOne_117 : decode cX7_readOne 117 = .ok (.iadd, 1) := by decide +kernel
theorem dX7_readOne_118 : decode cX7_readOne 118 = .ok (.iload_n 2, 1) := by decide +kernel
theorem dX7_readOne_119 : decode cX7_readOne 119 = .ok (.bipush 104, 2) := by decide +kernel
theorem dX7_readOne_121 : decode cX7_readOne 121 = .ok (.if_icmp .eq 9, 3) := by decide +kernel
theorem dX7_readOne_124 : decode cX7_readOne 124 = .ok (.iload_n 2, 1) := by decide +kernel
theorem dX7_readOne_125 : decode cX7_readOne 125 = .ok (.bipush 108, 2) := by decide +kernel
theorem dX7_readOne_127 : decode cX7_readOne 127 = .ok (.if_icmp .ne 20, 3) := by decide +kernel
theorem dX7_readOne_130 : decode cX7_readOne 130 = .ok (.aload_n 0, 1) := by decide +kernel
theorem dX7_readOne_131 : decode cX7_readOne 131 = .ok (.getfield 129, 3) := by decide +kernel
theorem dX7_readOne_134 : decode cX7_readOne 134 = .ok (.ifCond .ne 13, 3) := by decide +kernel
theorem dX7_readOne_137 : decode cX7_readOne 137 = .ok (.aload_n 0, 1) := by decide +kernel
theorem dX7_readOne_138 : decode cX7_readOne 138 = .ok (.bipush 48, 2) := by decide +kernel
theorem dX7_readOne_140 : decode cX7_readOne 140 = .ok (.iconst 3, 1) := by decide +kernel
theorem dX7_readOne_141 : decode cX7_readOne 141 = .ok (.invokevirtual 132, 3) := by decide +kernel
theorem dX7_readOne_144 : decode cX7_readOne 144 = .ok (.goto 4, 3) := by decide +kernel
theorem dX7_readOne_147 : decode cX7_readOne 147 = .ok (.iconst 0, 1) := by decide +kernel
theorem dX7_readOne_148 : decode cX7_readOne 148 = .ok (.iastore, 1) := by decide +kernel
theorem dX7_readOne_149 : decode cX7_readOne 149 = .ok (.aload_n 0, 1) := by decide +kernel
theorem dX7_readOne_150 : decode cX7_readOne 150 = .ok (.dup, 1) := by decide +kernel
theorem dX7_readOne_151 : decode cX7_readOne 151 = .ok (.getfield 135, 3) := by decide +kernel
theorem dX7_readOne_154 : decode cX7_readOne 154 = .ok (.iconst 1, 1) := by decide +kernel
theorem dX7_readOne_155 : decode cX7_readOne 155 = .ok (.iadd, 1) := by decide +kernel
theorem dX7_readOne_156 : decode cX7_readOne 156 = .ok (.putfield 135, 3) := by decide +kernel
theorem dX7_readOne_159 : decode cX7_readOne 159 = .ok (.return_, 1) := by decide +kernel
theorem dX7_faultOf_0 : decode cX7_faultOf 0 = .ok (.aload_n 0, 1) := by decide +kernel
theorem dX7_faultOf_1 : decode cX7_faultOf 1 = .ok (.iconst 0, 1) := by decide +kernel
theorem dX7_faultOf_2 : decode cX7_faultOf 2 = .ok (.putfield 123, 3) := by decide +kernel
theorem dX7_faultOf_5 : decode cX7_faultOf 5 = .ok (.aload_n 0, 1) := by decide +kernel
theorem dX7_faultOf_6 : decode cX7_faultOf 6 = .ok (.iconst 0, 1) := by decide +kernel
theorem dX7_faultOf_7 : decode cX7_faultOf 7 = .ok (.putfield 135, 3) := by decide +kernel
theorem dX7_faultOf_10 : decode cX7_faultOf 10 = .ok (.aload_n 0, 1) := by decide +kernel
theorem dX7_faultOf_11 : decode cX7_faultOf 11 = .ok (.iconst 0, 1) := by decide +kernel
theorem dX7_faultOf_12 : decode cX7_faultOf 12 = .ok (.putfield 129, 3) := by decide +kernel
theorem dX7_faultOf_15 : decode cX7_faultOf 15 = .ok (.aload_n 0, 1) := by decide +kernel
theorem dX7_faultOf_16 : decode cX7_faultOf 16 = .ok (.invokevirtual 141, 3) := by decide +kernel
theorem dX7_faultOf_19 : decode cX7_faultOf 19 = .ok (.aload_n 0, 1) := by decide +kernel
theorem dX7_faultOf_20 : decode cX7_faultOf 20 = .ok (.getfield 129, 3) := by decide +kernel
theorem dX7_faultOf_23 : decode cX7_faultOf 23 = .ok (.ifCond .ne 56, 3) := by decide +kernel
theorem dX7_faultOf_26 : decode cX7_faultOf 26 = .ok (.aload_n 0, 1) := by decide +kernel
theorem dX7_faultOf_27 : decode cX7_faultOf 27 = .ok (.getfield 123, 3) := by decide +kernel
theorem dX7_faultOf_30 : decode cX7_faultOf 30 = .ok (.aload_n 0, 1) := by decide +kernel
theorem dX7_faultOf_31 : decode cX7_faultOf 31 = .ok (.getfield 108, 3) := by decide +kernel
theorem dX7_faultOf_34 : decode cX7_faultOf 34 = .ok (.if_icmp .ge 45, 3) := by decide +kernel
theorem dX7_faultOf_37 : decode cX7_faultOf 37 = .ok (.aload_n 0, 1) := by decide +kernel
theorem dX7_faultOf_38 : decode cX7_faultOf 38 = .ok (.aload_n 0, 1) := by decide +kernel
theorem dX7_faultOf_39 : decode cX7_faultOf 39 = .ok (.invokevirtual 126, 3) := by decide +kernel
theorem dX7_faultOf_42 : decode cX7_faultOf 42 = .ok (.bipush 59, 2) := by decide +kernel
theorem dX7_faultOf_44 : decode cX7_faultOf 44 = .ok (.if_icmp .eq 7, 3) := by decide +kernel
theorem dX7_faultOf_47 : decode cX7_faultOf 47 = .ok (.iconst 1, 1) := by decide +kernel
theorem dX7_faultOf_48 : decode cX7_faultOf 48 = .ok (.goto 4, 3) := by decide +kernel
theorem dX7_faultOf_51 : decode cX7_faultOf 51 = .ok (.iconst 0, 1) := by decide +kernel
theorem dX7_faultOf_52 : decode cX7_faultOf 52 = .ok (.putfield 129, 3) := by decide +kernel
theorem dX7_faultOf_55 : decode cX7_faultOf 55 = .ok (.aload_n 0, 1) := by decide +kernel
theorem dX7_faultOf_56 : decode cX7_faultOf 56 = .ok (.getfield 129, 3) := by decide +kernel
theorem dX7_faultOf_59 : decode cX7_faultOf 59 = .ok (.ifCond .ne (-40), 3) := by decide +kernel
theorem dX7_faultOf_62 : decode cX7_faultOf 62 = .ok (.aload_n 0, 1) := by decide +kernel
theorem dX7_faultOf_63 : decode cX7_faultOf 63 = .ok (.dup, 1) := by decide +kernel
theorem dX7_faultOf_64 : decode cX7_faultOf 64 = .ok (.getfield 123, 3) := by decide +kernel
theorem dX7_faultOf_67 : decode cX7_faultOf 67 = .ok (.iconst 1, 1) := by decide +kernel
theorem dX7_faultOf_68 : decode cX7_faultOf 68 = .ok (.iadd, 1) := by decide +kernel
theorem dX7_faultOf_69 : decode cX7_faultOf 69 = .ok (.putfield 123, 3) := by decide +kernel
theorem dX7_faultOf_72 : decode cX7_faultOf 72 = .ok (.aload_n 0, 1) := by decide +kernel
theorem dX7_faultOf_73 : decode cX7_faultOf 73 = .ok (.invokevirtual 141, 3) := by decide +kernel
theorem dX7_faultOf_76 : decode cX7_faultOf 76 = .ok (.goto (-57), 3) := by decide +kernel
theorem dX7_faultOf_79 : decode cX7_faultOf 79 = .ok (.aload_n 0, 1) := by decide +kernel
theorem dX7_faultOf_80 : decode cX7_faultOf 80 = .ok (.getfield 129, 3) := by decide +kernel
theorem dX7_faultOf_83 : decode cX7_faultOf 83 = .ok (.ifCond .eq 10, 3) := by decide +kernel
theorem dX7_faultOf_86 : decode cX7_faultOf 86 = .ok (.aload_n 0, 1) := by decide +kernel
theorem dX7_faultOf_87 : decode cX7_faultOf 87 = .ok (.getfield 123, 3) := by decide +kernel
theorem dX7_faultOf_90 : decode cX7_faultOf 90 = .ok (.goto 5, 3) := by decide +kernel
theorem dX7_faultOf_93 : decode cX7_faultOf 93 = .ok (.bipush (-6), 2) := by decide +kernel
theorem dX7_faultOf_95 : decode cX7_faultOf 95 = .ok (.ireturn, 1) := by decide +kernel
theorem dX7_put_0 : decode cX7_put 0 = .ok (.iconst 0, 1) := by decide +kernel
theorem dX7_put_1 : decode cX7_put 1 = .ok (.istore_n 3, 1) := by decide +kernel
theorem dX7_put_2 : decode cX7_put 2 = .ok (.lload_n 1, 1) := by decide +kernel
theorem dX7_put_3 : decode cX7_put 3 = .ok (.lstore 4, 2) := by decide +kernel
theorem dX7_put_5 : decode cX7_put 5 = .ok (.lload 4, 2) := by decide +kernel
theorem dX7_put_7 : decode cX7_put 7 = .ok (.ldc2_w 144, 3) := by decide +kernel
theorem dX7_put_10 : decode cX7_put 10 = .ok (.land, 1) := by decide +kernel
theorem dX7_put_11 : decode cX7_put 11 = .ok (.lconst 0, 1) := by decide +kernel
theorem dX7_put_12 : decode cX7_put 12 = .ok (.lcmp, 1) := by decide +kernel
theorem dX7_put_13 : decode cX7_put 13 = .ok (.ifCond .eq 36, 3) := by decide +kernel
theorem dX7_put_16 : decode cX7_put 16 = .ok (.lload 4, 2) := by decide +kernel
theorem dX7_put_18 : decode cX7_put 18 = .ok (.ldc2_w 144, 3) := by decide +kernel
theorem dX7_put_21 : decode cX7_put 21 = .ok (.land, 1) := by decide +kernel
theorem dX7_put_22 : decode cX7_put 22 = .ok (.l2i, 1) := by decide +kernel
theorem dX7_put_23 : decode cX7_put 23 = .ok (.bipush 33, 2) := by decide +kernel
theorem dX7_put_25 : decode cX7_put 25 = .ok (.bipush 126, 2) := by decide +kernel
theorem dX7_put_27 : decode cX7_put 27 = .ok (.invokestatic 40, 3) := by decide +kernel
theorem dX7_put_30 : decode cX7_put 30 = .ok (.ifCond .ne 6, 3) := by decide +kernel
theorem dX7_put_33 : decode cX7_put 33 = .ok (.bipush (-2), 2) := by decide +kernel
theorem dX7_put_35 : decode cX7_put 35 = .ok (.ireturn, 1) := by decide +kernel
theorem dX7_put_36 : decode cX7_put 36 = .ok (.iinc 3 1, 3) := by decide +kernel
theorem dX7_put_39 : decode cX7_put 39 = .ok (.lload 4, 2) := by decide +kernel
theorem dX7_put_41 : decode cX7_put 41 = .ok (.bipush 8, 2) := by decide +kernel
theorem dX7_put_43 : decode cX7_put 43 = .ok (.lushr, 1) := by decide +kernel
theorem dX7_put_44 : decode cX7_put 44 = .ok (.lstore 4, 2) := by decide +kernel
theorem dX7_put_46 : decode cX7_put 46 = .ok (.goto (-41), 3) := by decide +kernel
theorem dX7_put_49 : decode cX7_put 49 = .ok (.lload 4, 2) := by decide +kernel
theorem dX7_put_51 : decode cX7_put 51 = .ok (.lconst 0, 1) := by decide +kernel
theorem dX7_put_52 : decode cX7_put 52 = .ok (.lcmp, 1) := by decide +kernel
theorem dX7_put_53 : decode cX7_put 53 = .ok (.ifCond .ne 7, 3) := by decide +kernel
theorem dX7_put_56 : decode cX7_put 56 = .ok (.iload_n 3, 1) := by decide +kernel
theorem dX7_put_57 : decode cX7_put 57 = .ok (.ifCond .ne 6, 3) := by decide +kernel
theorem dX7_put_60 : decode cX7_put 60 = .ok (.bipush (-2), 2) := by decide +kernel
theorem dX7_put_62 : decode cX7_put 62 = .ok (.ireturn, 1) := by decide +kernel
theorem dX7_put_63 : decode cX7_put 63 = .ok (.aload_n 0, 1) := by decide +kernel
theorem dX7_put_64 : decode cX7_put 64 = .ok (.getfield 108, 3) := by decide +kernel
theorem dX7_put_67 : decode cX7_put 67 = .ok (.iload_n 3, 1) := by decide +kernel
theorem dX7_put_68 : decode cX7_put 68 = .ok (.iadd, 1) := by decide +kernel
theorem dX7_put_69 : decode cX7_put 69 = .ok (.bipush 80, 2) := by decide +kernel
theorem dX7_put_71 : decode cX7_put 71 = .ok (.if_icmp .le 6, 3) := by decide +kernel
theorem dX7_put_74 : decode cX7_put 74 = .ok (.bipush (-4), 2) := by decide +kernel
theorem dX7_put_76 : decode cX7_put 76 = .ok (.ireturn, 1) := by decide +kernel
theorem dX7_put_77 : decode cX7_put 77 = .ok (.lload_n 1, 1) := by decide +kernel
theorem dX7_put_78 : decode cX7_put 78 = .ok (.lstore 4, 2) := by decide +kernel
theorem dX7_put_80 : decode cX7_put 80 = .ok (.iload_n 3, 1) := by decide +kernel
theorem dX7_put_81 : decode cX7_put 81 = .ok (.iconst 1, 1) := by decide +kernel
theorem dX7_put_82 : decode cX7_put 82 = .ok (.isub, 1) := by decide +kernel
theorem dX7_put_83 : decode cX7_put 83 = .ok (.istore 6, 2) := by decide +kernel
theorem dX7_put_85 : decode cX7_put 85 = .ok (.iload 6, 2) := by decide +kernel
theorem dX7_put_87 : decode cX7_put 87 = .ok (.ifCond .lt 35, 3) := by decide +kernel
theorem dX7_put_90 : decode cX7_put 90 = .ok (.aload_n 0, 1) := by decide +kernel
theorem dX7_put_91 : decode cX7_put 91 = .ok (.getfield 26, 3) := by decide +kernel
theorem dX7_put_94 : decode cX7_put 94 = .ok (.aload_n 0, 1) := by decide +kernel
theorem dX7_put_95 : decode cX7_put 95 = .ok (.getfield 108, 3) := by decide +kernel
theorem dX7_put_98 : decode cX7_put 98 = .ok (.iload 6, 2) := by decide +kernel
theorem dX7_put_100 : decode cX7_put 100 = .ok (.iadd, 1) := by decide +kernel
theorem dX7_put_101 : decode cX7_put 101 = .ok (.lload 4, 2) := by decide +kernel
theorem dX7_put_103 : decode cX7_put 103 = .ok (.ldc2_w 144, 3) := by decide +kernel
theorem dX7_put_106 : decode cX7_put 106 = .ok (.land, 1) := by decide +kernel
theorem dX7_put_107 : decode cX7_put 107 = .ok (.l2i, 1) := by decide +kernel
theorem dX7_put_108 : decode cX7_put 108 = .ok (.iastore, 1) := by decide +kernel
theorem dX7_put_109 : decode cX7_put 109 = .ok (.lload 4, 2) := by decide +kernel
theorem dX7_put_111 : decode cX7_put 111 = .ok (.bipush 8, 2) := by decide +kernel
theorem dX7_put_113 : decode cX7_put 113 = .ok (.lushr, 1) := by decide +kernel
theorem dX7_put_114 : decode cX7_put 114 = .ok (.lstore 4, 2) := by decide +kernel
theorem dX7_put_116 : decode cX7_put 116 = .ok (.iinc 6 (-1), 3) := by decide +kernel
theorem dX7_put_119 : decode cX7_put 119 = .ok (.goto (-34), 3) := by decide +kernel
theorem dX7_put_122 : decode cX7_put 122 = .ok (.aload_n 0, 1) := by decide +kernel
theorem dX7_put_123 : decode cX7_put 123 = .ok (.dup, 1) := by decide +kernel
theorem dX7_put_124 : decode cX7_put 124 = .ok (.getfield 108, 3) := by decide +kernel
theorem dX7_put_127 : decode cX7_put 127 = .ok (.iload_n 3, 1) := by decide +kernel
theorem dX7_put_128 : decode cX7_put 128 = .ok (.iadd, 1) := by decide +kernel
theorem dX7_put_129 : decode cX7_put 129 = .ok (.putfield 108, 3) := by decide +kernel
theorem dX7_put_132 : decode cX7_put 132 = .ok (.aload_n 0, 1) := by decide +kernel
theorem dX7_put_133 : decode cX7_put 133 = .ok (.getfield 108, 3) := by decide +kernel
theorem dX7_put_136 : decode cX7_put 136 = .ok (.ireturn, 1) := by decide +kernel
theorem dX7_wipe_0 : decode cX7_wipe 0 = .ok (.aload_n 0, 1) := by decide +kernel
theorem dX7_wipe_1 : decode cX7_wipe 1 = .ok (.getfield 108, 3) := by decide +kernel
theorem dX7_wipe_4 : decode cX7_wipe 4 = .ok (.istore_n 1, 1) := by decide +kernel
theorem dX7_wipe_5 : decode cX7_wipe 5 = .ok (.aload_n 0, 1) := by decide +kernel
theorem dX7_wipe_6 : decode cX7_wipe 6 = .ok (.iconst 0, 1) := by decide +kernel
theorem dX7_wipe_7 : decode cX7_wipe 7 = .ok (.putfield 108, 3) := by decide +kernel
theorem dX7_wipe_10 : decode cX7_wipe 10 = .ok (.iload_n 1, 1) := by decide +kernel
theorem dX7_wipe_11 : decode cX7_wipe 11 = .ok (.ireturn, 1) := by decide +kernel
theorem dX7_fault_0 : decode cX7_fault 0 = .ok (.aload_n 0, 1) := by decide +kernel
theorem dX7_fault_1 : decode cX7_fault 1 = .ok (.invokevirtual 146, 3) := by decide +kernel
theorem dX7_fault_4 : decode cX7_fault 4 = .ok (.ireturn, 1) := by decide +kernel
theorem dX7_carry_0 : decode cX7_carry 0 = .ok (.aload_n 0, 1) := by decide +kernel
theorem dX7_carry_1 : decode cX7_carry 1 = .ok (.getfield 29, 3) := by decide +kernel
theorem dX7_carry_4 : decode cX7_carry 4 = .ok (.iload_n 1, 1) := by decide +kernel
theorem dX7_carry_5 : decode cX7_carry 5 = .ok (.iconst 1, 1) := by decide +kernel
theorem dX7_carry_6 : decode cX7_carry 6 = .ok (.iadd, 1) := by decide +kernel
theorem dX7_carry_7 : decode cX7_carry 7 = .ok (.iaload, 1) := by decide +kernel
theorem dX7_carry_8 : decode cX7_carry 8 = .ok (.istore_n 2, 1) := by decide +kernel
theorem dX7_carry_9 : decode cX7_carry 9 = .ok (.aload_n 0, 1) := by decide +kernel
theorem dX7_carry_10 : decode cX7_carry 10 = .ok (.getfield 29, 3) := by decide +kernel
theorem dX7_carry_13 : decode cX7_carry 13 = .ok (.iload_n 1, 1) := by decide +kernel
theorem dX7_carry_14 : decode cX7_carry 14 = .ok (.iaload, 1) := by decide +kernel
theorem dX7_carry_15 : decode cX7_carry 15 = .ok (.tableswitch 119 104 117 #[75, 119, 119, 119, 90, 105, 112, 119, 119, 119, 119, 119, 119, 69], 69) := by decide +kernel
theorem dX7_carry_84 : decode cX7_carry 84 = .ok (.aload_n 0, 1) := by decide +kernel
theorem dX7_carry_85 : decode cX7_carry 85 = .ok (.iload_n 2, 1) := by decide +kernel
theorem dX7_carry_86 : decode cX7_carry 86 = .ok (.invokevirtual 149, 3) := by decide +kernel
theorem dX7_carry_89 : decode cX7_carry 89 = .ok (.ireturn, 1) := by decide +kernel
theorem dX7_carry_90 : decode cX7_carry 90 = .ok (.aload_n 0, 1) := by decide +kernel
theorem dX7_carry_91 : decode cX7_carry 91 = .ok (.iload_n 2, 1) := by decide +kernel
theorem dX7_carry_92 : decode cX7_carry 92 = .ok (.aload_n 0, 1) := by decide +kernel
theorem dX7_carry_93 : decode cX7_carry 93 = .ok (.getfield 29, 3) := by decide +kernel
theorem dX7_carry_96 : decode cX7_carry 96 = .ok (.iload_n 1, 1) := by decide +kernel
theorem dX7_carry_97 : decode cX7_carry 97 = .ok (.iconst 2, 1) := by decide +kernel
theorem dX7_carry_98 : decode cX7_carry 98 = .ok (.iadd, 1) := by decide +kernel
theorem dX7_carry_99 : decode cX7_carry 99 = .ok (.iaload, 1) := by decide +kernel
theorem dX7_carry_100 : decode cX7_carry 100 = .ok (.iconst 1, 1) := by decide +kernel
theorem dX7_carry_101 : decode cX7_carry 101 = .ok (.invokevirtual 152, 3) := by decide +kernel
theorem dX7_carry_104 : decode cX7_carry 104 = .ok (.ireturn, 1) := by decide +kernel
theorem dX7_carry_105 : decode cX7_carry 105 = .ok (.aload_n 0, 1) := by decide +kernel
theorem dX7_carry_106 : decode cX7_carry 106 = .ok (.iload_n 2, 1) := by decide +kernel
theorem dX7_carry_107 : decode cX7_carry 107 = .ok (.aload_n 0, 1) := by decide +kernel
theorem dX7_carry_108 : decode cX7_carry 108 = .ok (.getfield 29, 3) := by decide +kernel
theorem dX7_carry_111 : decode cX7_carry 111 = .ok (.iload_n 1, 1) := by decide +kernel
theorem dX7_carry_112 : decode cX7_carry 112 = .ok (.iconst 2, 1) := by decide +kernel
theorem dX7_carry_113 : decode cX7_carry 113 = .ok (.iadd, 1) := by decide +kernel
theorem dX7_carry_114 : decode cX7_carry 114 = .ok (.iaload, 1) := by decide +kernel
theorem dX7_carry_115 : decode cX7_carry 115 = .ok (.iconst 0, 1) := by decide +kernel
theorem dX7_carry_116 : decode cX7_carry 116 = .ok (.invokevirtual 152, 3) := by decide +kernel
theorem dX7_carry_119 : decode cX7_carry 119 = .ok (.ireturn, 1) := by decide +kernel
theorem dX7_carry_120 : decode cX7_carry 120 = .ok (.aload_n 0, 1) := by decide +kernel
theorem dX7_carry_121 : decode cX7_carry 121 = .ok (.iload_n 2, 1) := by decide +kernel
theorem dX7_carry_122 : decode cX7_carry 122 = .ok (.iconst 1, 1) := by decide +kernel
theorem dX7_carry_123 : decode cX7_carry 123 = .ok (.invokevirtual 156, 3) := by decide +kernel
theorem dX7_carry_126 : decode cX7_carry 126 = .ok (.ireturn, 1) := by decide +kernel
theorem dX7_carry_127 : decode cX7_carry 127 = .ok (.aload_n 0, 1) := by decide +kernel
theorem dX7_carry_128 : decode cX7_carry 128 = .ok (.iload_n 2, 1) := by decide +kernel
theorem dX7_carry_129 : decode cX7_carry 129 = .ok (.iconst 0, 1) := by decide +kernel
theorem dX7_carry_130 : decode cX7_carry 130 = .ok (.invokevirtual 156, 3) := by decide +kernel
theorem dX7_carry_133 : decode cX7_carry 133 = .ok (.ireturn, 1) := by decide +kernel
theorem dX7_carry_134 : decode cX7_carry 134 = .ok (.aload_n 0, 1) := by decide +kernel
theorem dX7_carry_135 : decode cX7_carry 135 = .ok (.iload_n 2, 1) := by decide +kernel
theorem dX7_carry_136 : decode cX7_carry 136 = .ok (.invokevirtual 159, 3) := by decide +kernel
theorem dX7_carry_139 : decode cX7_carry 139 = .ok (.ireturn, 1) := by decide +kernel
theorem dX7_carryOut_0 : decode cX7_carryOut 0 = .ok (.aload_n 0, 1) := by decide +kernel
theorem dX7_carryOut_1 : decode cX7_carryOut 1 = .ok (.invokevirtual 146, 3) := by decide +kernel
theorem dX7_carryOut_4 : decode cX7_carryOut 4 = .ok (.bipush (-6), 2) := by decide +kernel
theorem dX7_carryOut_6 : decode cX7_carryOut 6 = .ok (.if_icmp .eq 6, 3) := by decide +kernel
theorem dX7_carryOut_9 : decode cX7_carryOut 9 = .ok (.bipush (-3), 2) := by decide +kernel
theorem dX7_carryOut_11 : decode cX7_carryOut 11 = .ok (.ireturn, 1) := by decide +kernel
theorem dX7_carryOut_12 : decode cX7_carryOut 12 = .ok (.aload_n 0, 1) := by decide +kernel
theorem dX7_carryOut_13 : decode cX7_carryOut 13 = .ok (.invokevirtual 51, 3) := by decide +kernel
theorem dX7_carryOut_16 : decode cX7_carryOut 16 = .ok (.aload_n 0, 1) := by decide +kernel
theorem dX7_carryOut_17 : decode cX7_carryOut 17 = .ok (.iconst 1, 1) := by decide +kernel
theorem dX7_carryOut_18 : decode cX7_carryOut 18 = .ok (.putfield 32, 3) := by decide +kernel
theorem dX7_carryOut_21 : decode cX7_carryOut 21 = .ok (.iconst 0, 1) := by decide +kernel
theorem dX7_carryOut_22 : decode cX7_carryOut 22 = .ok (.istore_n 1, 1) := by decide +kernel
theorem dX7_carryOut_23 : decode cX7_carryOut 23 = .ok (.iload_n 1, 1) := by decide +kernel
theorem dX7_carryOut_24 : decode cX7_carryOut 24 = .ok (.aload_n 0, 1) := by decide +kernel
theorem dX7_carryOut_25 : decode cX7_carryOut 25 = .ok (.getfield 135, 3) := by decide +kernel
theorem dX7_carryOut_28 : decode cX7_carryOut 28 = .ok (.if_icmp .ge 19, 3) := by decide +kernel
theorem dX7_carryOut_31 : decode cX7_carryOut 31 = .ok (.aload_n 0, 1) := by decide +kernel
theorem dX7_carryOut_32 : decode cX7_carryOut 32 = .ok (.iconst 3, 1) := by decide +kernel
theorem dX7_carryOut_33 : decode cX7_carryOut 33 = .ok (.iload_n 1, 1) := by decide +kernel
theorem dX7_carryOut_34 : decode cX7_carryOut 34 = .ok (.imul, 1) := by decide +kernel
theorem dX7_carryOut_35 : decode cX7_carryOut 35 = .ok (.invokevirtual 162, 3) := by decide +kernel
theorem dX7_carryOut_38 : decode cX7_carryOut 38 = .ok (.ifCond .lt 9, 3) := by decide +kernel
theorem dX7_carryOut_41 : decode cX7_carryOut 41 = .ok (.iinc 1 1, 3) := by decide +kernel
theorem dX7_carryOut_44 : decode cX7_carryOut 44 = .ok (.goto (-21), 3) := by decide +kernel
theorem dX7_carryOut_47 : decode cX7_carryOut 47 = .ok (.aload_n 0, 1) := by decide +kernel
theorem dX7_carryOut_48 : decode cX7_carryOut 48 = .ok (.iconst 0, 1) := by decide +kernel
theorem dX7_carryOut_49 : decode cX7_carryOut 49 = .ok (.putfield 32, 3) := by decide +kernel
theorem dX7_carryOut_52 : decode cX7_carryOut 52 = .ok (.aload_n 0, 1) := by decide +kernel
theorem dX7_carryOut_53 : decode cX7_carryOut 53 = .ok (.iconst 0, 1) := by decide +kernel
theorem dX7_carryOut_54 : decode cX7_carryOut 54 = .ok (.putfield 108, 3) := by decide +kernel
theorem dX7_carryOut_57 : decode cX7_carryOut 57 = .ok (.iload_n 1, 1) := by decide +kernel
theorem dX7_carryOut_58 : decode cX7_carryOut 58 = .ok (.ireturn, 1) := by decide +kernel
theorem dX7_undo_0 : decode cX7_undo 0 = .ok (.aload_n 0, 1) := by decide +kernel
theorem dX7_undo_1 : decode cX7_undo 1 = .ok (.getfield 36, 3) := by decide +kernel
theorem dX7_undo_4 : decode cX7_undo 4 = .ok (.ifCond .ne 6, 3) := by decide +kernel
theorem dX7_undo_7 : decode cX7_undo 7 = .ok (.bipush (-5), 2) := by decide +kernel
theorem dX7_undo_9 : decode cX7_undo 9 = .ok (.ireturn, 1) := by decide +kernel
theorem dX7_undo_10 : decode cX7_undo 10 = .ok (.aload_n 0, 1) := by decide +kernel
theorem dX7_undo_11 : decode cX7_undo 11 = .ok (.dup, 1) := by decide +kernel
theorem dX7_undo_12 : decode cX7_undo 12 = .ok (.getfield 36, 3) := by decide +kernel
theorem dX7_undo_15 : decode cX7_undo 15 = .ok (.iconst 1, 1) := by decide +kernel
theorem dX7_undo_16 : decode cX7_undo 16 = .ok (.isub, 1) := by decide +kernel
theorem dX7_undo_17 : decode cX7_undo 17 = .ok (.putfield 36, 3) := by decide +kernel
theorem dX7_undo_20 : decode cX7_undo 20 = .ok (.iconst 0, 1) := by decide +kernel
theorem dX7_undo_21 : decode cX7_undo 21 = .ok (.istore_n 1, 1) := by decide +kernel
theorem dX7_undo_22 : decode cX7_undo 22 = .ok (.iload_n 1, 1) := by decide +kernel
theorem dX7_undo_23 : decode cX7_undo 23 = .ok (.sipush 280, 3) := by decide +kernel
theorem dX7_undo_26 : decode cX7_undo 26 = .ok (.if_icmp .ge 30, 3) := by decide +kernel
theorem dX7_undo_29 : decode cX7_undo 29 = .ok (.aload_n 0, 1) := by decide +kernel
theorem dX7_undo_30 : decode cX7_undo 30 = .ok (.getfield 7, 3) := by decide +kernel
theorem dX7_undo_33 : decode cX7_undo 33 = .ok (.iload_n 1, 1) := by decide +kernel
theorem dX7_undo_34 : decode cX7_undo 34 = .ok (.aload_n 0, 1) := by decide +kernel
theorem dX7_undo_35 : decode cX7_undo 35 = .ok (.getfield 16, 3) := by decide +kernel
theorem dX7_undo_38 : decode cX7_undo 38 = .ok (.aload_n 0, 1) := by decide +kernel
theorem dX7_undo_39 : decode cX7_undo 39 = .ok (.getfield 36, 3) := by decide +kernel
theorem dX7_undo_42 : decode cX7_undo 42 = .ok (.sipush 280, 3) := by decide +kernel
theorem dX7_undo_45 : decode cX7_undo 45 = .ok (.imul, 1) := by decide +kernel
theorem dX7_undo_46 : decode cX7_undo 46 = .ok (.iload_n 1, 1) := by decide +kernel
theorem dX7_undo_47 : decode cX7_undo 47 = .ok (.iadd, 1) := by decide +kernel
theorem dX7_undo_48 : decode cX7_undo 48 = .ok (.iaload, 1) := by decide +kernel
theorem dX7_undo_49 : decode cX7_undo 49 = .ok (.iastore, 1) := by decide +kernel
theorem dX7_undo_50 : decode cX7_undo 50 = .ok (.iinc 1 1, 3) := by decide +kernel
theorem dX7_undo_53 : decode cX7_undo 53 = .ok (.goto (-31), 3) := by decide +kernel
theorem dX7_undo_56 : decode cX7_undo 56 = .ok (.aload_n 0, 1) := by decide +kernel
theorem dX7_undo_57 : decode cX7_undo 57 = .ok (.getfield 36, 3) := by decide +kernel
theorem dX7_undo_60 : decode cX7_undo 60 = .ok (.ireturn, 1) := by decide +kernel
theorem dX7_save_0 : decode cX7_save 0 = .ok (.iload_n 1, 1) := by decide +kernel
theorem dX7_save_1 : decode cX7_save 1 = .ok (.iconst 0, 1) := by decide +kernel
theorem dX7_save_2 : decode cX7_save 2 = .ok (.iconst 1, 1) := by decide +kernel
theorem dX7_save_3 : decode cX7_save 3 = .ok (.invokestatic 40, 3) := by decide +kernel
theorem dX7_save_6 : decode cX7_save 6 = .ok (.ifCond .ne 6, 3) := by decide +kernel
theorem dX7_save_9 : decode cX7_save 9 = .ok (.bipush (-2), 2) := by decide +kernel
theorem dX7_save_11 : decode cX7_save 11 = .ok (.ireturn, 1) := by decide +kernel
theorem dX7_save_12 : decode cX7_save 12 = .ok (.iconst 0, 1) := by decide +kernel
theorem dX7_save_13 : decode cX7_save 13 = .ok (.istore_n 2, 1) := by decide +kernel
theorem dX7_save_14 : decode cX7_save 14 = .ok (.iload_n 2, 1) := by decide +kernel
theorem dX7_save_15 : decode cX7_save 15 = .ok (.sipush 280, 3) := by decide +kernel
theorem dX7_save_18 : decode cX7_save 18 = .ok (.if_icmp .ge 27, 3) := by decide +kernel
theorem dX7_save_21 : decode cX7_save 21 = .ok (.aload_n 0, 1) := by decide +kernel
theorem dX7_save_22 : decode cX7_save 22 = .ok (.getfield 19, 3) := by decide +kernel
theorem dX7_save_25 : decode cX7_save 25 = .ok (.iload_n 1, 1) := by decide +kernel
theorem dX7_save_26 : decode cX7_save 26 = .ok (.sipush 280, 3) := by decide +kernel
theorem dX7_save_29 : decode cX7_save 29 = .ok (.imul, 1) := by decide +kernel
theorem dX7_save_30 : decode cX7_save 30 = .ok (.iload_n 2, 1) := by decide +kernel
theorem dX7_save_31 : decode cX7_save 31 = .ok (.iadd, 1) := by decide +kernel
theorem dX7_save_32 : decode cX7_save 32 = .ok (.aload_n 0, 1) := by decide +kernel
theorem dX7_save_33 : decode cX7_save 33 = .ok (.getfield 7, 3) := by decide +kernel
theorem dX7_save_36 : decode cX7_save 36 = .ok (.iload_n 2, 1) := by decide +kernel
theorem dX7_save_37 : decode cX7_save 37 = .ok (.iaload, 1) := by decide +kernel
theorem dX7_save_38 : decode cX7_save 38 = .ok (.iastore, 1) := by decide +kernel
theorem dX7_save_39 : decode cX7_save 39 = .ok (.iinc 2 1, 3) := by decide +kernel
theorem dX7_save_42 : decode cX7_save 42 = .ok (.goto (-28), 3) := by decide +kernel
theorem dX7_save_45 : decode cX7_save 45 = .ok (.aload_n 0, 1) := by decide +kernel
theorem dX7_save_46 : decode cX7_save 46 = .ok (.getfield 22, 3) := by decide +kernel
theorem dX7_save_49 : decode cX7_save 49 = .ok (.iload_n 1, 1) := by decide +kernel
theorem dX7_save_50 : decode cX7_save 50 = .ok (.iconst 1, 1) := by decide +kernel
theorem dX7_save_51 : decode cX7_save 51 = .ok (.bastore, 1) := by decide +kernel
theorem dX7_save_52 : decode cX7_save 52 = .ok (.aload_n 0, 1) := by decide +kernel
theorem dX7_save_53 : decode cX7_save 53 = .ok (.getfield 7, 3) := by decide +kernel
theorem dX7_save_56 : decode cX7_save 56 = .ok (.bipush 7, 2) := by decide +kernel
theorem dX7_save_58 : decode cX7_save 58 = .ok (.iaload, 1) := by decide +kernel
theorem dX7_save_59 : decode cX7_save 59 = .ok (.ireturn, 1) := by decide +kernel
theorem dX7_restore_0 : decode cX7_restore 0 = .ok (.iload_n 1, 1) := by decide +kernel
theorem dX7_restore_1 : decode cX7_restore 1 = .ok (.iconst 0, 1) := by decide +kernel
theorem dX7_restore_2 : decode cX7_restore 2 = .ok (.iconst 1, 1) := by decide +kernel
theorem dX7_restore_3 : decode cX7_restore 3 = .ok (.invokestatic 40, 3) := by decide +kernel
theorem dX7_restore_6 : decode cX7_restore 6 = .ok (.ifCond .ne 6, 3) := by decide +kernel
theorem dX7_restore_9 : decode cX7_restore 9 = .ok (.bipush (-2), 2) := by decide +kernel
theorem dX7_restore_11 : decode cX7_restore 11 = .ok (.ireturn, 1) := by decide +kernel
theorem dX7_restore_12 : decode cX7_restore 12 = .ok (.aload_n 0, 1) := by decide +kernel
theorem dX7_restore_13 : decode cX7_restore 13 = .ok (.getfield 22, 3) := by decide +kernel
theorem dX7_restore_16 : decode cX7_restore 16 = .ok (.iload_n 1, 1) := by decide +kernel
theorem dX7_restore_17 : decode cX7_restore 17 = .ok (.baload, 1) := by decide +kernel
theorem dX7_restore_18 : decode cX7_restore 18 = .ok (.ifCond .ne 6, 3) := by decide +kernel
theorem dX7_restore_21 : decode cX7_restore 21 = .ok (.bipush (-5), 2) := by decide +kernel
theorem dX7_restore_23 : decode cX7_restore 23 = .ok (.ireturn, 1) := by decide +kernel
theorem dX7_restore_24 : decode cX7_restore 24 = .ok (.aload_n 0, 1) := by decide +kernel
theorem dX7_restore_25 : decode cX7_restore 25 = .ok (.invokevirtual 51, 3) := by decide +kernel
theorem dX7_restore_28 : decode cX7_restore 28 = .ok (.iconst 0, 1) := by decide +kernel
theorem dX7_restore_29 : decode cX7_restore 29 = .ok (.istore_n 2, 1) := by decide +kernel
theorem dX7_restore_30 : decode cX7_restore 30 = .ok (.iload_n 2, 1) := by decide +kernel
theorem dX7_restore_31 : decode cX7_restore 31 = .ok (.sipush 280, 3) := by decide +kernel
theorem dX7_restore_34 : decode cX7_restore 34 = .ok (.if_icmp .ge 27, 3) := by decide +kernel
theorem dX7_restore_37 : decode cX7_restore 37 = .ok (.aload_n 0, 1) := by decide +kernel
theorem dX7_restore_38 : decode cX7_restore 38 = .ok (.getfield 7, 3) := by decide +kernel
theorem dX7_restore_41 : decode cX7_restore 41 = .ok (.iload_n 2, 1) := by decide +kernel
theorem dX7_restore_42 : decode cX7_restore 42 = .ok (.aload_n 0, 1) := by decide +kernel
theorem dX7_restore_43 : decode cX7_restore 43 = .ok (.getfield 19, 3) := by decide +kernel
theorem dX7_restore_46 : decode cX7_restore 46 = .ok (.iload_n 1, 1) := by decide +kernel
theorem dX7_restore_47 : decode cX7_restore 47 = .ok (.sipush 280, 3) := by decide +kernel
theorem dX7_restore_50 : decode cX7_restore 50 = .ok (.imul, 1) := by decide +kernel
theorem dX7_restore_51 : decode cX7_restore 51 = .ok (.iload_n 2, 1) := by decide +kernel
theorem dX7_restore_52 : decode cX7_restore 52 = .ok (.iadd, 1) := by decide +kernel
theorem dX7_restore_53 : decode cX7_restore 53 = .ok (.iaload, 1) := by decide +kernel
theorem dX7_restore_54 : decode cX7_restore 54 = .ok (.iastore, 1) := by decide +kernel
theorem dX7_restore_55 : decode cX7_restore 55 = .ok (.iinc 2 1, 3) := by decide +kernel
theorem dX7_restore_58 : decode cX7_restore 58 = .ok (.goto (-28), 3) := by decide +kernel
theorem dX7_restore_61 : decode cX7_restore 61 = .ok (.aload_n 0, 1) := by decide +kernel
theorem dX7_restore_62 : decode cX7_restore 62 = .ok (.getfield 7, 3) := by decide +kernel
theorem dX7_restore_65 : decode cX7_restore 65 = .ok (.bipush 7, 2) := by decide +kernel
theorem dX7_restore_67 : decode cX7_restore 67 = .ok (.iaload, 1) := by decide +kernel
theorem dX7_restore_68 : decode cX7_restore 68 = .ok (.ireturn, 1) := by decide +kernel
end
section
-- decode rows, printed by the check's program
theorem dL_law_0 : decode cL_law 0 = .ok (.new 7, 3) := by decide +kernel
theorem dL_law_3 : decode cL_law 3 = .ok (.dup, 1) := by decide +kernel
theorem dL_law_4 : decode cL_law 4 = .ok (.invokespecial 9, 3) := by decide +kernel
theorem dL_law_7 : decode cL_law 7 = .ok (.astore_n 1, 1) := by decide +kernel
theorem dL_law_8 : decode cL_law 8 = .ok (.new 10, 3) := by decide +kernel
theorem dL_law_11 : decode cL_law 11 = .ok (.dup, 1) := by decide +kernel
theorem dL_law_12 : decode cL_law 12 = .ok (.invokespecial 12, 3) := by decide +kernel
theorem dL_law_15 : decode cL_law 15 = .ok (.astore_n 2, 1) := by decide +kernel
theorem dL_law_16 : decode cL_law 16 = .ok (.iconst 0, 1) := by decide +kernel
theorem dL_law_17 : decode cL_law 17 = .ok (.istore_n 3, 1) := by decide +kernel
theorem dL_law_18 : decode cL_law 18 = .ok (.iload_n 3, 1) := by decide +kernel
theorem dL_law_19 : decode cL_law 19 = .ok (.aload_n 0, 1) := by decide +kernel
theorem dL_law_20 : decode cL_law 20 = .ok (.arraylength, 1) := by decide +kernel
theorem dL_law_21 : decode cL_law 21 = .ok (.iconst 5, 1) := by decide +kernel
theorem dL_law_22 : decode cL_law 22 = .ok (.isub, 1) := by decide +kernel
theorem dL_law_23 : decode cL_law 23 = .ok (.if_icmp .gt 863, 3) := by decide +kernel
theorem dL_law_26 : decode cL_law 26 = .ok (.aload_n 0, 1) := by decide +kernel
theorem dL_law_27 : decode cL_law 27 = .ok (.iload_n 3, 1) := by decide +kernel
theorem dL_law_28 : decode cL_law 28 = .ok (.iaload, 1) := by decide +kernel
theorem dL_law_29 : decode cL_law 29 = .ok (.bipush 31, 2) := by decide +kernel
theorem dL_law_31 : decode cL_law 31 = .ok (.iand, 1) := by decide +kernel
theorem dL_law_32 : decode cL_law 32 = .ok (.tableswitch 848 0 25 #[120, 153, 206, 249, 272, 295, 338, 371, 424, 447, 480, 513, 546, 569, 592, 605, 628, 661, 684, 697, 750, 763, 776, 789, 802, 825], 120) := by decide +kernel
theorem dL_law_152 : decode cL_law 152 = .ok (.aload_n 1, 1) := by decide +kernel
theorem dL_law_153 : decode cL_law 153 = .ok (.aload_n 0, 1) := by decide +kernel
theorem dL_law_154 : decode cL_law 154 = .ok (.iload_n 3, 1) := by decide +kernel
theorem dL_law_155 : decode cL_law 155 = .ok (.iconst 1, 1) := by decide +kernel
theorem dL_law_156 : decode cL_law 156 = .ok (.iadd, 1) := by decide +kernel
theorem dL_law_157 : decode cL_law 157 = .ok (.iaload, 1) := by decide +kernel
theorem dL_law_158 : decode cL_law 158 = .ok (.aload_n 0, 1) := by decide +kernel
theorem dL_law_159 : decode cL_law 159 = .ok (.iload_n 3, 1) := by decide +kernel
theorem dL_law_160 : decode cL_law 160 = .ok (.iconst 2, 1) := by decide +kernel
theorem dL_law_161 : decode cL_law 161 = .ok (.iadd, 1) := by decide +kernel
theorem dL_law_162 : decode cL_law 162 = .ok (.iaload, 1) := by decide +kernel
theorem dL_law_163 : decode cL_law 163 = .ok (.invokevirtual 13, 3) := by decide +kernel
theorem dL_law_166 : decode cL_law 166 = .ok (.aload_n 2, 1) := by decide +kernel
theorem dL_law_167 : decode cL_law 167 = .ok (.aload_n 0, 1) := by decide +kernel
theorem dL_law_168 : decode cL_law 168 = .ok (.iload_n 3, 1) := by decide +kernel
theorem dL_law_169 : decode cL_law 169 = .ok (.iconst 1, 1) := by decide +kernel
theorem dL_law_170 : decode cL_law 170 = .ok (.iadd, 1) := by decide +kernel
theorem dL_law_171 : decode cL_law 171 = .ok (.iaload, 1) := by decide +kernel
theorem dL_law_172 : decode cL_law 172 = .ok (.aload_n 0, 1) := by decide +kernel
theorem dL_law_173 : decode cL_law 173 = .ok (.iload_n 3, 1) := by decide +kernel
theorem dL_law_174 : decode cL_law 174 = .ok (.iconst 2, 1) := by decide +kernel
theorem dL_law_175 : decode cL_law 175 = .ok (.iadd, 1) := by decide +kernel
theorem dL_law_176 : decode cL_law 176 = .ok (.iaload, 1) := by decide +kernel
theorem dL_law_177 : decode cL_law 177 = .ok (.invokevirtual 17, 3) := by decide +kernel
theorem dL_law_180 : decode cL_law 180 = .ok (.if_icmp .eq 700, 3) := by decide +kernel
theorem dL_law_183 : decode cL_law 183 = .ok (.iconst 0, 1) := by decide +kernel
theorem dL_law_184 : decode cL_law 184 = .ok (.ireturn, 1) := by decide +kernel
theorem dL_law_185 : decode cL_law 185 = .ok (.aload_n 1, 1) := by decide +kernel
theorem dL_law_186 : decode cL_law 186 = .ok (.aload_n 0, 1) := by decide +kernel
theorem dL_law_187 : decode cL_law 187 = .ok (.iload_n 3, 1) := by decide +kernel
theorem dL_law_188 : decode cL_law 188 = .ok (.iconst 1, 1) := by decide +kernel
theorem dL_law_189 : decode cL_law 189 = .ok (.iadd, 1) := by decide +kernel
theorem dL_law_190 : decode cL_law 190 = .ok (.iaload, 1) := by decide +kernel
theorem dL_law_191 : decode cL_law 191 = .ok (.aload_n 0, 1) := by decide +kernel
theorem dL_law_192 : decode cL_law 192 = .ok (.iload_n 3, 1) := by decide +kernel
theorem dL_law_193 : decode cL_law 193 = .ok (.iconst 2, 1) := by decide +kernel
theorem dL_law_194 : decode cL_law 194 = .ok (.iadd, 1) := by decide +kernel
theorem dL_law_195 : decode cL_law 195 = .ok (.iaload, 1) := by decide +kernel
theorem dL_law_196 : decode cL_law 196 = .ok (.aload_n 0, 1) := by decide +kernel
theorem dL_law_197 : decode cL_law 197 = .ok (.iload_n 3, 1) := by decide +kernel
theorem dL_law_198 : decode cL_law 198 = .ok (.iconst 3, 1) := by decide +kernel
theorem dL_law_199 : decode cL_law 199 = .ok (.iadd, 1) := by decide +kernel
theorem dL_law_200 : decode cL_law 200 = .ok (.iaload, 1) := by decide +kernel
theorem dL_law_201 : decode cL_law 201 = .ok (.aload_n 0, 1) := by decide +kernel
theorem dL_law_202 : decode cL_law 202 = .ok (.iload_n 3, 1) := by decide +kernel
theorem dL_law_203 : decode cL_law 203 = .ok (.iconst 4, 1) := by decide +kernel
theorem dL_law_204 : decode cL_law 204 = .ok (.iadd, 1) := by decide +kernel
theorem dL_law_205 : decode cL_law 205 = .ok (.iaload, 1) := by decide +kernel
theorem dL_law_206 : decode cL_law 206 = .ok (.invokevirtual 18, 3) := by decide +kernel
theorem dL_law_209 : decode cL_law 209 = .ok (.aload_n 2, 1) := by decide +kernel
theorem dL_law_210 : decode cL_law 210 = .ok (.aload_n 0, 1) := by decide +kernel
theorem dL_law_211 : decode cL_law 211 = .ok (.iload_n 3, 1) := by decide +kernel
theorem dL_law_212 : decode cL_law 212 = .ok (.iconst 1, 1) := by decide +kernel
theorem dL_law_213 : decode cL_law 213 = .ok (.iadd, 1) := by decide +kernel
theorem dL_law_214 : decode cL_law 214 = .ok (.iaload, 1) := by decide +kernel
theorem dL_law_215 : decode cL_law 215 = .ok (.aload_n 0, 1) := by decide +kernel
theorem dL_law_216 : decode cL_law 216 = .ok (.iload_n 3, 1) := by decide +kernel
theorem dL_law_217 : decode cL_law 217 = .ok (.iconst 2, 1) := by decide +kernel
theorem dL_law_218 : decode cL_law 218 = .ok (.iadd, 1) := by decide +kernel
theorem dL_law_219 : decode cL_law 219 = .ok (.iaload, 1) := by decide +kernel
theorem dL_law_220 : decode cL_law 220 = .ok (.aload_n 0, 1) := by decide +kernel
theorem dL_law_221 : decode cL_law 221 = .ok (.iload_n 3, 1) := by decide +kernel
theorem dL_law_222 : decode cL_law 222 = .ok (.iconst 3, 1) := by decide +kernel
theorem dL_law_223 : decode cL_law 223 = .ok (.iadd, 1) := by decide +kernel
theorem dL_law_224 : decode cL_law 224 = .ok (.iaload, 1) := by decide +kernel
theorem dL_law_225 : decode cL_law 225 = .ok (.aload_n 0, 1) := by decide +kernel
theorem dL_law_226 : decode cL_law 226 = .ok (.iload_n 3, 1) := by decide +kernel
theorem dL_law_227 : decode cL_law 227 = .ok (.iconst 4, 1) := by decide +kernel
theorem dL_law_228 : decode cL_law 228 = .ok (.iadd, 1) := by decide +kernel
theorem dL_law_229 : decode cL_law 229 = .ok (.iaload, 1) := by decide +kernel
theorem dL_law_230 : decode cL_law 230 = .ok (.invokevirtual 22, 3) := by decide +kernel
theorem dL_law_233 : decode cL_law 233 = .ok (.if_icmp .eq 647, 3) := by decide +kernel
theorem dL_law_236 : decode cL_law 236 = .ok (.iconst 0, 1) := by decide +kernel
theorem dL_law_237 : decode cL_law 237 = .ok (.ireturn, 1) := by decide +kernel
theorem dL_law_238 : decode cL_law 238 = .ok (.aload_n 1, 1) := by decide +kernel
theorem dL_law_239 : decode cL_law 239 = .ok (.aload_n 0, 1) := by decide +kernel
theorem dL_law_240 : decode cL_law 240 = .ok (.iload_n 3, 1) := by decide +kernel
theorem dL_law_241 : decode cL_law 241 = .ok (.iconst 1, 1) := by decide +kernel
theorem dL_law_242 : decode cL_law 242 = .ok (.iadd, 1) := by decide +kernel
theorem dL_law_243 : decode cL_law 243 = .ok (.iaload, 1) := by decide +kernel
theorem dL_law_244 : decode cL_law 244 = .ok (.aload_n 0, 1) := by decide +kernel
theorem dL_law_245 : decode cL_law 245 = .ok (.iload_n 3, 1) := by decide +kernel
theorem dL_law_246 : decode cL_law 246 = .ok (.iconst 2, 1) := by decide +kernel
theorem dL_law_247 : decode cL_law 247 = .ok (.iadd, 1) := by decide +kernel
theorem dL_law_248 : decode cL_law 248 = .ok (.iaload, 1) := by decide +kernel
theorem dL_law_249 : decode cL_law 249 = .ok (.aload_n 0, 1) := by decide +kernel
theorem dL_law_250 : decode cL_law 250 = .ok (.iload_n 3, 1) := by decide +kernel
theorem dL_law_251 : decode cL_law 251 = .ok (.iconst 3, 1) := by decide +kernel
theorem dL_law_252 : decode cL_law 252 = .ok (.iadd, 1) := by decide +kernel
theorem dL_law_253 : decode cL_law 253 = .ok (.iaload, 1) := by decide +kernel
theorem dL_law_254 : decode cL_law 254 = .ok (.invokevirtual 23, 3) := by decide +kernel
theorem dL_law_257 : decode cL_law 257 = .ok (.aload_n 2, 1) := by decide +kernel
theorem dL_law_258 : decode cL_law 258 = .ok (.aload_n 0, 1) := by decide +kernel
theorem dL_law_259 : decode cL_law 259 = .ok (.iload_n 3, 1) := by decide +kernel
theorem dL_law_260 : decode cL_law 260 = .ok (.iconst 1, 1) := by decide +kernel
theorem dL_law_261 : decode cL_law 261 = .ok (.iadd, 1) := by decide +kernel
theorem dL_law_262 : decode cL_law 262 = .ok (.iaload, 1) := by decide +kernel
theorem dL_law_263 : decode cL_law 263 = .ok (.aload_n 0, 1) := by decide +kernel
theorem dL_law_264 : decode cL_law 264 = .ok (.iload_n 3, 1) := by decide +kernel
theorem dL_law_265 : decode cL_law 265 = .ok (.iconst 2, 1) := by decide +kernel
theorem dL_law_266 : decode cL_law 266 = .ok (.iadd, 1) := by decide +kernel
theorem dL_law_267 : decode cL_law 267 = .ok (.iaload, 1) := by decide +kernel
theorem dL_law_268 : decode cL_law 268 = .ok (.aload_n 0, 1) := by decide +kernel
theorem dL_law_269 : decode cL_law 269 = .ok (.iload_n 3, 1) := by decide +kernel
theorem dL_law_270 : decode cL_law 270 = .ok (.iconst 3, 1) := by decide +kernel
theorem dL_law_271 : decode cL_law 271 = .ok (.iadd, 1) := by decide +kernel
theorem dL_law_272 : decode cL_law 272 = .ok (.iaload, 1) := by decide +kernel
theorem dL_law_273 : decode cL_law 273 = .ok (.invokevirtual 27, 3) := by decide +kernel
theorem dL_law_276 : decode cL_law 276 = .ok (.if_icmp .eq 604, 3) := by decide +kernel
theorem dL_law_279 : decode cL_law 279 = .ok (.iconst 0, 1) := by decide +kernel
theorem dL_law_280 : decode cL_law 280 = .ok (.ireturn, 1) := by decide +kernel
theorem dL_law_281 : decode cL_law 281 = .ok (.aload_n 1, 1) := by decide +kernel
theorem dL_law_282 : decode cL_law 282 = .ok (.aload_n 0, 1) := by decide +kernel
theorem dL_law_283 : decode cL_law 283 = .ok (.iload_n 3, 1) := by decide +kernel
theorem dL_law_284 : decode cL_law 284 = .ok (.iconst 1, 1) := by decide +kernel
theorem dL_law_285 : decode cL_law 285 = .ok (.iadd, 1) := by decide +kernel
theorem dL_law_286 : decode cL_law 286 = .ok (.iaload, 1) := by decide +kernel
theorem dL_law_287 : decode cL_law 287 = .ok (.invokevirtual 28, 3) := by decide +kernel
theorem dL_law_290 : decode cL_law 290 = .ok (.aload_n 2, 1) := by decide +kernel
theorem dL_law_291 : decode cL_law 291 = .ok (.aload_n 0, 1) := by decide +kernel
theorem dL_law_292 : decode cL_law 292 = .ok (.iload_n 3, 1) := by decide +kernel
theorem dL_law_293 : decode cL_law 293 = .ok (.iconst 1, 1) := by decide +kernel
theorem dL_law_294 : decode cL_law 294 = .ok (.iadd, 1) := by decide +kernel
theorem dL_law_295 : decode cL_law 295 = .ok (.iaload, 1) := by decide +kernel
theorem dL_law_296 : decode cL_law 296 = .ok (.invokevirtual 32, 3) := by decide +kernel
theorem dL_law_299 : decode cL_law 299 = .ok (.if_icmp .eq 581, 3) := by decide +kernel
theorem dL_law_302 : decode cL_law 302 = .ok (.iconst 0, 1) := by decide +kernel
theorem dL_law_303 : decode cL_law 303 = .ok (.ireturn, 1) := by decide +kernel
theorem dL_law_304 : decode cL_law 304 = .ok (.aload_n 1, 1) := by decide +kernel
theorem dL_law_305 : decode cL_law 305 = .ok (.aload_n 0, 1) := by decide +kernel
theorem dL_law_306 : decode cL_law 306 = .ok (.iload_n 3, 1) := by decide +kernel
theorem dL_law_307 : decode cL_law 307 = .ok (.iconst 1, 1) := by decide +kernel
theorem dL_law_308 : decode cL_law 308 = .ok (.iadd, 1) := by decide +kernel
theorem dL_law_309 : decode cL_law 309 = .ok (.iaload, 1) := by decide +kernel
theorem dL_law_310 : decode cL_law 310 = .ok (.invokevirtual 33, 3) := by decide +kernel
theorem dL_law_313 : decode cL_law 313 = .ok (.aload_n 2, 1) := by decide +kernel
theorem dL_law_314 : decode cL_law 314 = .ok (.aload_n 0, 1) := by decide +kernel
theorem dL_law_315 : decode cL_law 315 = .ok (.iload_n 3, 1) := by decide +kernel
theorem dL_law_316 : decode cL_law 316 = .ok (.iconst 1, 1) := by decide +kernel
theorem dL_law_317 : decode cL_law 317 = .ok (.iadd, 1) := by decide +kernel
theorem dL_law_318 : decode cL_law 318 = .ok (.iaload, 1) := by decide +kernel
theorem dL_law_319 : decode cL_law 319 = .ok (.invokevirtual 36, 3) := by decide +kernel
theorem dL_law_322 : decode cL_law 322 = .ok (.if_icmp .eq 558, 3) := by decide +kernel
theorem dL_law_325 : decode cL_law 325 = .ok (.iconst 0, 1) := by decide +kernel
theorem dL_law_326 : decode cL_law 326 = .ok (.ireturn, 1) := by decide +kernel
theorem dL_law_327 : decode cL_law 327 = .ok (.aload_n 1, 1) := by decide +kernel
theorem dL_law_328 : decode cL_law 328 = .ok (.aload_n 0, 1) := by decide +kernel
theorem dL_law_329 : decode cL_law 329 = .ok (.iload_n 3, 1) := by decide +kernel
theorem dL_law_330 : decode cL_law 330 = .ok (.iconst 1, 1) := by decide +kernel
theorem dL_law_331 : decode cL_law 331 = .ok (.iadd, 1) := by decide +kernel
theorem dL_law_332 : decode cL_law 332 = .ok (.iaload, 1) := by decide +kernel
theorem dL_law_333 : decode cL_law 333 = .ok (.aload_n 0, 1) := by decide +kernel
theorem dL_law_334 : decode cL_law 334 = .ok (.iload_n 3, 1) := by decide +kernel
theorem dL_law_335 : decode cL_law 335 = .ok (.iconst 2, 1) := by decide +kernel
theorem dL_law_336 : decode cL_law 336 = .ok (.iadd, 1) := by decide +kernel
theorem dL_law_337 : decode cL_law 337 = .ok (.iaload, 1) := by decide +kernel
theorem dL_law_338 : decode cL_law 338 = .ok (.aload_n 0, 1) := by decide +kernel
theorem dL_law_339 : decode cL_law 339 = .ok (.iload_n 3, 1) := by decide +kernel
theorem dL_law_340 : decode cL_law 340 = .ok (.iconst 3, 1) := by decide +kernel
theorem dL_law_341 : decode cL_law 341 = .ok (.iadd, 1) := by decide +kernel
theorem dL_law_342 : decode cL_law 342 = .ok (.iaload, 1) := by decide +kernel
theorem dL_law_343 : decode cL_law 343 = .ok (.invokevirtual 37, 3) := by decide +kernel
theorem dL_law_346 : decode cL_law 346 = .ok (.aload_n 2, 1) := by decide +kernel
theorem dL_law_347 : decode cL_law 347 = .ok (.aload_n 0, 1) := by decide +kernel
theorem dL_law_348 : decode cL_law 348 = .ok (.iload_n 3, 1) := by decide +kernel
theorem dL_law_349 : decode cL_law 349 = .ok (.iconst 1, 1) := by decide +kernel
theorem dL_law_350 : decode cL_law 350 = .ok (.iadd, 1) := by decide +kernel
theorem dL_law_351 : decode cL_law 351 = .ok (.iaload, 1) := by decide +kernel
theorem dL_law_352 : decode cL_law 352 = .ok (.aload_n 0, 1) := by decide +kernel
theorem dL_law_353 : decode cL_law 353 = .ok (.iload_n 3, 1) := by decide +kernel
theorem dL_law_354 : decode cL_law 354 = .ok (.iconst 2, 1) := by decide +kernel
theorem dL_law_355 : decode cL_law 355 = .ok (.iadd, 1) := by decide +kernel
theorem dL_law_356 : decode cL_law 356 = .ok (.iaload, 1) := by decide +kernel
theorem dL_law_357 : decode cL_law 357 = .ok (.aload_n 0, 1) := by decide +kernel
theorem dL_law_358 : decode cL_law 358 = .ok (.iload_n 3, 1) := by decide +kernel
theorem dL_law_359 : decode cL_law 359 = .ok (.iconst 3, 1) := by decide +kernel
theorem dL_law_360 : decode cL_law 360 = .ok (.iadd, 1) := by decide +kernel
theorem dL_law_361 : decode cL_law 361 = .ok (.iaload, 1) := by decide +kernel
theorem dL_law_362 : decode cL_law 362 = .ok (.invokevirtual 40, 3) := by decide +kernel
theorem dL_law_365 : decode cL_law 365 = .ok (.if_icmp .eq 515, 3) := by decide +kernel
theorem dL_law_368 : decode cL_law 368 = .ok (.iconst 0, 1) := by decide +kernel
theorem dL_law_369 : decode cL_law 369 = .ok (.ireturn, 1) := by decide +kernel
theorem dL_law_370 : decode cL_law 370 = .ok (.aload_n 1, 1) := by decide +kernel
theorem dL_law_371 : decode cL_law 371 = .ok (.aload_n 0, 1) := by decide +kernel
theorem dL_law_372 : decode cL_law 372 = .ok (.iload_n 3, 1) := by decide +kernel
theorem dL_law_373 : decode cL_law 373 = .ok (.iconst 1, 1) := by decide +kernel
theorem dL_law_374 : decode cL_law 374 = .ok (.iadd, 1) := by decide +kernel
theorem dL_law_375 : decode cL_law 375 = .ok (.iaload, 1) := by decide +kernel
theorem dL_law_376 : decode cL_law 376 = .ok (.aload_n 0, 1) := by decide +kernel
theorem dL_law_377 : decode cL_law 377 = .ok (.iload_n 3, 1) := by decide +kernel
theorem dL_law_378 : decode cL_law 378 = .ok (.iconst 2, 1) := by decide +kernel
theorem dL_law_379 : decode cL_law 379 = .ok (.iadd, 1) := by decide +kernel
theorem dL_law_380 : decode cL_law 380 = .ok (.iaload, 1) := by decide +kernel
theorem dL_law_381 : decode cL_law 381 = .ok (.invokevirtual 41, 3) := by decide +kernel
theorem dL_law_384 : decode cL_law 384 = .ok (.aload_n 2, 1) := by decide +kernel
theorem dL_law_385 : decode cL_law 385 = .ok (.aload_n 0, 1) := by decide +kernel
theorem dL_law_386 : decode cL_law 386 = .ok (.iload_n 3, 1) := by decide +kernel
theorem dL_law_387 : decode cL_law 387 = .ok (.iconst 1, 1) := by decide +kernel
theorem dL_law_388 : decode cL_law 388 = .ok (.iadd, 1) := by decide +kernel
theorem dL_law_389 : decode cL_law 389 = .ok (.iaload, 1) := by decide +kernel
theorem dL_law_390 : decode cL_law 390 = .ok (.aload_n 0, 1) := by decide +kernel
theorem dL_law_391 : decode cL_law 391 = .ok (.iload_n 3, 1) := by decide +kernel
theorem dL_law_392 : decode cL_law 392 = .ok (.iconst 2, 1) := by decide +kernel
theorem dL_law_393 : decode cL_law 393 = .ok (.iadd, 1) := by decide +kernel
theorem dL_law_394 : decode cL_law 394 = .ok (.iaload, 1) := by decide +kernel
theorem dL_law_395 : decode cL_law 395 = .ok (.invokevirtual 44, 3) := by decide +kernel
theorem dL_law_398 : decode cL_law 398 = .ok (.if_icmp .eq 482, 3) := by decide +kernel
theorem dL_law_401 : decode cL_law 401 = .ok (.iconst 0, 1) := by decide +kernel
theorem dL_law_402 : decode cL_law 402 = .ok (.ireturn, 1) := by decide +kernel
theorem dL_law_403 : decode cL_law 403 = .ok (.aload_n 1, 1) := by decide +kernel
theorem dL_law_404 : decode cL_law 404 = .ok (.aload_n 0, 1) := by decide +kernel
theorem dL_law_405 : decode cL_law 405 = .ok (.iload_n 3, 1) := by decide +kernel
theorem dL_law_406 : decode cL_law 406 = .ok (.iconst 1, 1) := by decide +kernel
theorem dL_law_407 : decode cL_law 407 = .ok (.iadd, 1) := by decide +kernel
theorem dL_law_408 : decode cL_law 408 = .ok (.iaload, 1) := by decide +kernel
theorem dL_law_409 : decode cL_law 409 = .ok (.aload_n 0, 1) := by decide +kernel
theorem dL_law_410 : decode cL_law 410 = .ok (.iload_n 3, 1) := by decide +kernel
theorem dL_law_411 : decode cL_law 411 = .ok (.iconst 2, 1) := by decide +kernel
theorem dL_law_412 : decode cL_law 412 = .ok (.iadd, 1) := by decide +kernel
theorem dL_law_413 : decode cL_law 413 = .ok (.iaload, 1) := by decide +kernel
theorem dL_law_414 : decode cL_law 414 = .ok (.aload_n 0, 1) := by decide +kernel
theorem dL_law_415 : decode cL_law 415 = .ok (.iload_n 3, 1) := by decide +kernel
theorem dL_law_416 : decode cL_law 416 = .ok (.iconst 3, 1) := by decide +kernel
theorem dL_law_417 : decode cL_law 417 = .ok (.iadd, 1) := by decide +kernel
theorem dL_law_418 : decode cL_law 418 = .ok (.iaload, 1) := by decide +kernel
theorem dL_law_419 : decode cL_law 419 = .ok (.aload_n 0, 1) := by decide +kernel
theorem dL_law_420 : decode cL_law 420 = .ok (.iload_n 3, 1) := by decide +kernel
theorem dL_law_421 : decode cL_law 421 = .ok (.iconst 4, 1) := by decide +kernel
theorem dL_law_422 : decode cL_law 422 = .ok (.iadd, 1) := by decide +kernel
theorem dL_law_423 : decode cL_law 423 = .ok (.iaload, 1) := by decide +kernel
theorem dL_law_424 : decode cL_law 424 = .ok (.invokevirtual 45, 3) := by decide +kernel
theorem dL_law_427 : decode cL_law 427 = .ok (.aload_n 2, 1) := by decide +kernel
theorem dL_law_428 : decode cL_law 428 = .ok (.aload_n 0, 1) := by decide +kernel
theorem dL_law_429 : decode cL_law 429 = .ok (.iload_n 3, 1) := by decide +kernel
theorem dL_law_430 : decode cL_law 430 = .ok (.iconst 1, 1) := by decide +kernel
theorem dL_law_431 : decode cL_law 431 = .ok (.iadd, 1) := by decide +kernel
theorem dL_law_432 : decode cL_law 432 = .ok (.iaload, 1) := by decide +kernel
theorem dL_law_433 : decode cL_law 433 = .ok (.aload_n 0, 1) := by decide +kernel
theorem dL_law_434 : decode cL_law 434 = .ok (.iload_n 3, 1) := by decide +kernel
theorem dL_law_435 : decode cL_law 435 = .ok (.iconst 2, 1) := by decide +kernel
theorem dL_law_436 : decode cL_law 436 = .ok (.iadd, 1) := by decide +kernel
theorem dL_law_437 : decode cL_law 437 = .ok (.iaload, 1) := by decide +kernel
theorem dL_law_438 : decode cL_law 438 = .ok (.aload_n 0, 1) := by decide +kernel
theorem dL_law_439 : decode cL_law 439 = .ok (.iload_n 3, 1) := by decide +kernel
theorem dL_law_440 : decode cL_law 440 = .ok (.iconst 3, 1) := by decide +kernel
theorem dL_law_441 : decode cL_law 441 = .ok (.iadd, 1) := by decide +kernel
theorem dL_law_442 : decode cL_law 442 = .ok (.iaload, 1) := by decide +kernel
theorem dL_law_443 : decode cL_law 443 = .ok (.aload_n 0, 1) := by decide +kernel
theorem dL_law_444 : decode cL_law 444 = .ok (.iload_n 3, 1) := by decide +kernel
theorem dL_law_445 : decode cL_law 445 = .ok (.iconst 4, 1) := by decide +kernel
theorem dL_law_446 : decode cL_law 446 = .ok (.iadd, 1) := by decide +kernel
theorem dL_law_447 : decode cL_law 447 = .ok (.iaload, 1) := by decide +kernel
theorem dL_law_448 : decode cL_law 448 = .ok (.invokevirtual 48, 3) := by decide +kernel
theorem dL_law_451 : decode cL_law 451 = .ok (.if_icmp .eq 429, 3) := by decide +kernel
theorem dL_law_454 : decode cL_law 454 = .ok (.iconst 0, 1) := by decide +kernel
theorem dL_law_455 : decode cL_law 455 = .ok (.ireturn, 1) := by decide +kernel
theorem dL_law_456 : decode cL_law 456 = .ok (.aload_n 1, 1) := by decide +kernel
theorem dL_law_457 : decode cL_law 457 = .ok (.aload_n 0, 1) := by decide +kernel
theorem dL_law_458 : decode cL_law 458 = .ok (.iload_n 3, 1) := by decide +kernel
theorem dL_law_459 : decode cL_law 459 = .ok (.iconst 1, 1) := by decide +kernel
theorem dL_law_460 : decode cL_law 460 = .ok (.iadd, 1) := by decide +kernel
theorem dL_law_461 : decode cL_law 461 = .ok (.iaload, 1) := by decide +kernel
theorem dL_law_462 : decode cL_law 462 = .ok (.invokevirtual 49, 3) := by decide +kernel
theorem dL_law_465 : decode cL_law 465 = .ok (.aload_n 2, 1) := by decide +kernel
theorem dL_law_466 : decode cL_law 466 = .ok (.aload_n 0, 1) := by decide +kernel
theorem dL_law_467 : decode cL_law 467 = .ok (.iload_n 3, 1) := by decide +kernel
theorem dL_law_468 : decode cL_law 468 = .ok (.iconst 1, 1) := by decide +kernel
theorem dL_law_469 : decode cL_law 469 = .ok (.iadd, 1) := by decide +kernel
theorem dL_law_470 : decode cL_law 470 = .ok (.iaload, 1) := by decide +kernel
theorem dL_law_471 : decode cL_law 471 = .ok (.invokevirtual 52, 3) := by decide +kernel
theorem dL_law_474 : decode cL_law 474 = .ok (.if_icmp .eq 406, 3) := by decide +kernel
theorem dL_law_477 : decode cL_law 477 = .ok (.iconst 0, 1) := by decide +kernel
theorem dL_law_478 : decode cL_law 478 = .ok (.ireturn, 1) := by decide +kernel
theorem dL_law_479 : decode cL_law 479 = .ok (.aload_n 1, 1) := by decide +kernel
theorem dL_law_480 : decode cL_law 480 = .ok (.aload_n 0, 1) := by decide +kernel
theorem dL_law_481 : decode cL_law 481 = .ok (.iload_n 3, 1) := by decide +kernel
theorem dL_law_482 : decode cL_law 482 = .ok (.iconst 1, 1) := by decide +kernel
theorem dL_law_483 : decode cL_law 483 = .ok (.iadd, 1) := by decide +kernel
theorem dL_law_484 : decode cL_law 484 = .ok (.iaload, 1) := by decide +kernel
theorem dL_law_485 : decode cL_law 485 = .ok (.aload_n 0, 1) := by decide +kernel
theorem dL_law_486 : decode cL_law 486 = .ok (.iload_n 3, 1) := by decide +kernel
theorem dL_law_487 : decode cL_law 487 = .ok (.iconst 2, 1) := by decide +kernel
theorem dL_law_488 : decode cL_law 488 = .ok (.iadd, 1) := by decide +kernel
theorem dL_law_489 : decode cL_law 489 = .ok (.iaload, 1) := by decide +kernel
theorem dL_law_490 : decode cL_law 490 = .ok (.invokevirtual 53, 3) := by decide +kernel
theorem dL_law_493 : decode cL_law 493 = .ok (.aload_n 2, 1) := by decide +kernel
theorem dL_law_494 : decode cL_law 494 = .ok (.aload_n 0, 1) := by decide +kernel
theorem dL_law_495 : decode cL_law 495 = .ok (.iload_n 3, 1) := by decide +kernel
theorem dL_law_496 : decode cL_law 496 = .ok (.iconst 1, 1) := by decide +kernel
theorem dL_law_497 : decode cL_law 497 = .ok (.iadd, 1) := by decide +kernel
theorem dL_law_498 : decode cL_law 498 = .ok (.iaload, 1) := by decide +kernel
theorem dL_law_499 : decode cL_law 499 = .ok (.aload_n 0, 1) := by decide +kernel
theorem dL_law_500 : decode cL_law 500 = .ok (.iload_n 3, 1) := by decide +kernel
theorem dL_law_501 : decode cL_law 501 = .ok (.iconst 2, 1) := by decide +kernel
theorem dL_law_502 : decode cL_law 502 = .ok (.iadd, 1) := by decide +kernel
theorem dL_law_503 : decode cL_law 503 = .ok (.iaload, 1) := by decide +kernel
theorem dL_law_504 : decode cL_law 504 = .ok (.invokevirtual 56, 3) := by decide +kernel
theorem dL_law_507 : decode cL_law 507 = .ok (.if_icmp .eq 373, 3) := by decide +kernel
theorem dL_law_510 : decode cL_law 510 = .ok (.iconst 0, 1) := by decide +kernel
theorem dL_law_511 : decode cL_law 511 = .ok (.ireturn, 1) := by decide +kernel
theorem dL_law_512 : decode cL_law 512 = .ok (.aload_n 1, 1) := by decide +kernel
theorem dL_law_513 : decode cL_law 513 = .ok (.aload_n 0, 1) := by decide +kernel
theorem dL_law_514 : decode cL_law 514 = .ok (.iload_n 3, 1) := by decide +kernel
theorem dL_law_515 : decode cL_law 515 = .ok (.iconst 1, 1) := by decide +kernel
theorem dL_law_516 : decode cL_law 516 = .ok (.iadd, 1) := by decide +kernel
theorem dL_law_517 : decode cL_law 517 = .ok (.iaload, 1) := by decide +kernel
theorem dL_law_518 : decode cL_law 518 = .ok (.aload_n 0, 1) := by decide +kernel
theorem dL_law_519 : decode cL_law 519 = .ok (.iload_n 3, 1) := by decide +kernel
theorem dL_law_520 : decode cL_law 520 = .ok (.iconst 2, 1) := by decide +kernel
theorem dL_law_521 : decode cL_law 521 = .ok (.iadd, 1) := by decide +kernel
theorem dL_law_522 : decode cL_law 522 = .ok (.iaload, 1) := by decide +kernel
theorem dL_law_523 : decode cL_law 523 = .ok (.invokevirtual 57, 3) := by decide +kernel
theorem dL_law_526 : decode cL_law 526 = .ok (.aload_n 2, 1) := by decide +kernel
theorem dL_law_527 : decode cL_law 527 = .ok (.aload_n 0, 1) := by decide +kernel
theorem dL_law_528 : decode cL_law 528 = .ok (.iload_n 3, 1) := by decide +kernel
theorem dL_law_529 : decode cL_law 529 = .ok (.iconst 1, 1) := by decide +kernel
theorem dL_law_530 : decode cL_law 530 = .ok (.iadd, 1) := by decide +kernel
theorem dL_law_531 : decode cL_law 531 = .ok (.iaload, 1) := by decide +kernel
theorem dL_law_532 : decode cL_law 532 = .ok (.aload_n 0, 1) := by decide +kernel
theorem dL_law_533 : decode cL_law 533 = .ok (.iload_n 3, 1) := by decide +kernel
theorem dL_law_534 : decode cL_law 534 = .ok (.iconst 2, 1) := by decide +kernel
theorem dL_law_535 : decode cL_law 535 = .ok (.iadd, 1) := by decide +kernel
theorem dL_law_536 : decode cL_law 536 = .ok (.iaload, 1) := by decide +kernel
theorem dL_law_537 : decode cL_law 537 = .ok (.invokevirtual 60, 3) := by decide +kernel
theorem dL_law_540 : decode cL_law 540 = .ok (.if_icmp .eq 340, 3) := by decide +kernel
theorem dL_law_543 : decode cL_law 543 = .ok (.iconst 0, 1) := by decide +kernel
theorem dL_law_544 : decode cL_law 544 = .ok (.ireturn, 1) := by decide +kernel
theorem dL_law_545 : decode cL_law 545 = .ok (.aload_n 1, 1) := by decide +kernel
theorem dL_law_546 : decode cL_law 546 = .ok (.aload_n 0, 1) := by decide +kernel
theorem dL_law_547 : decode cL_law 547 = .ok (.iload_n 3, 1) := by decide +kernel
theorem dL_law_548 : decode cL_law 548 = .ok (.iconst 1, 1) := by decide +kernel
theorem dL_law_549 : decode cL_law 549 = .ok (.iadd, 1) := by decide +kernel
theorem dL_law_550 : decode cL_law 550 = .ok (.iaload, 1) := by decide +kernel
theorem dL_law_551 : decode cL_law 551 = .ok (.aload_n 0, 1) := by decide +kernel
theorem dL_law_552 : decode cL_law 552 = .ok (.iload_n 3, 1) := by decide +kernel
theorem dL_law_553 : decode cL_law 553 = .ok (.iconst 2, 1) := by decide +kernel
theorem dL_law_554 : decode cL_law 554 = .ok (.iadd, 1) := by decide +kernel
theorem dL_law_555 : decode cL_law 555 = .ok (.iaload, 1) := by decide +kernel
theorem dL_law_556 : decode cL_law 556 = .ok (.invokevirtual 61, 3) := by decide +kernel
theorem dL_law_559 : decode cL_law 559 = .ok (.aload_n 2, 1) := by decide +kernel
theorem dL_law_560 : decode cL_law 560 = .ok (.aload_n 0, 1) := by decide +kernel
theorem dL_law_561 : decode cL_law 561 = .ok (.iload_n 3, 1) := by decide +kernel
theorem dL_law_562 : decode cL_law 562 = .ok (.iconst 1, 1) := by decide +kernel
theorem dL_law_563 : decode cL_law 563 = .ok (.iadd, 1) := by decide +kernel
theorem dL_law_564 : decode cL_law 564 = .ok (.iaload, 1) := by decide +kernel
theorem dL_law_565 : decode cL_law 565 = .ok (.aload_n 0, 1) := by decide +kernel
theorem dL_law_566 : decode cL_law 566 = .ok (.iload_n 3, 1) := by decide +kernel
theorem dL_law_567 : decode cL_law 567 = .ok (.iconst 2, 1) := by decide +kernel
theorem dL_law_568 : decode cL_law 568 = .ok (.iadd, 1) := by decide +kernel
theorem dL_law_569 : decode cL_law 569 = .ok (.iaload, 1) := by decide +kernel
theorem dL_law_570 : decode cL_law 570 = .ok (.invokevirtual 64, 3) := by decide +kernel
theorem dL_law_573 : decode cL_law 573 = .ok (.if_icmp .eq 307, 3) := by decide +kernel
theorem dL_law_576 : decode cL_law 576 = .ok (.iconst 0, 1) := by decide +kernel
theorem dL_law_577 : decode cL_law 577 = .ok (.ireturn, 1) := by decide +kernel
theorem dL_law_578 : decode cL_law 578 = .ok (.aload_n 1, 1) := by decide +kernel
theorem dL_law_579 : decode cL_law 579 = .ok (.aload_n 0, 1) := by decide +kernel
theorem dL_law_580 : decode cL_law 580 = .ok (.iload_n 3, 1) := by decide +kernel
theorem dL_law_581 : decode cL_law 581 = .ok (.iconst 1, 1) := by decide +kernel
theorem dL_law_582 : decode cL_law 582 = .ok (.iadd, 1) := by decide +kernel
theorem dL_law_583 : decode cL_law 583 = .ok (.iaload, 1) := by decide +kernel
theorem dL_law_584 : decode cL_law 584 = .ok (.invokevirtual 65, 3) := by decide +kernel
theorem dL_law_587 : decode cL_law 587 = .ok (.aload_n 2, 1) := by decide +kernel
theorem dL_law_588 : decode cL_law 588 = .ok (.aload_n 0, 1) := by decide +kernel
theorem dL_law_589 : decode cL_law 589 = .ok (.iload_n 3, 1) := by decide +kernel
theorem dL_law_590 : decode cL_law 590 = .ok (.iconst 1, 1) := by decide +kernel
theorem dL_law_591 : decode cL_law 591 = .ok (.iadd, 1) := by decide +kernel
theorem dL_law_592 : decode cL_law 592 = .ok (.iaload, 1) := by decide +kernel
theorem dL_law_593 : decode cL_law 593 = .ok (.invokevirtual 68, 3) := by decide +kernel
theorem dL_law_596 : decode cL_law 596 = .ok (.if_icmp .eq 284, 3) := by decide +kernel
theorem dL_law_599 : decode cL_law 599 = .ok (.iconst 0, 1) := by decide +kernel
theorem dL_law_600 : decode cL_law 600 = .ok (.ireturn, 1) := by decide +kernel
theorem dL_law_601 : decode cL_law 601 = .ok (.aload_n 1, 1) := by decide +kernel
theorem dL_law_602 : decode cL_law 602 = .ok (.aload_n 0, 1) := by decide +kernel
theorem dL_law_603 : decode cL_law 603 = .ok (.iload_n 3, 1) := by decide +kernel
theorem dL_law_604 : decode cL_law 604 = .ok (.iconst 1, 1) := by decide +kernel
theorem dL_law_605 : decode cL_law 605 = .ok (.iadd, 1) := by decide +kernel
theorem dL_law_606 : decode cL_law 606 = .ok (.iaload, 1) := by decide +kernel
theorem dL_law_607 : decode cL_law 607 = .ok (.invokevirtual 69, 3) := by decide +kernel
theorem dL_law_610 : decode cL_law 610 = .ok (.aload_n 2, 1) := by decide +kernel
theorem dL_law_611 : decode cL_law 611 = .ok (.aload_n 0, 1) := by decide +kernel
theorem dL_law_612 : decode cL_law 612 = .ok (.iload_n 3, 1) := by decide +kernel
theorem dL_law_613 : decode cL_law 613 = .ok (.iconst 1, 1) := by decide +kernel
theorem dL_law_614 : decode cL_law 614 = .ok (.iadd, 1) := by decide +kernel
theorem dL_law_615 : decode cL_law 615 = .ok (.iaload, 1) := by decide +kernel
theorem dL_law_616 : decode cL_law 616 = .ok (.invokevirtual 72, 3) := by decide +kernel
theorem dL_law_619 : decode cL_law 619 = .ok (.if_icmp .eq 261, 3) := by decide +kernel
theorem dL_law_622 : decode cL_law 622 = .ok (.iconst 0, 1) := by decide +kernel
theorem dL_law_623 : decode cL_law 623 = .ok (.ireturn, 1) := by decide +kernel
theorem dL_law_624 : decode cL_law 624 = .ok (.aload_n 1, 1) := by decide +kernel
theorem dL_law_625 : decode cL_law 625 = .ok (.invokevirtual 73, 3) := by decide +kernel
theorem dL_law_628 : decode cL_law 628 = .ok (.aload_n 2, 1) := by decide +kernel
theorem dL_law_629 : decode cL_law 629 = .ok (.invokevirtual 77, 3) := by decide +kernel
theorem dL_law_632 : decode cL_law 632 = .ok (.if_icmp .eq 248, 3) := by decide +kernel
theorem dL_law_635 : decode cL_law 635 = .ok (.iconst 0, 1) := by decide +kernel
theorem dL_law_636 : decode cL_law 636 = .ok (.ireturn, 1) := by decide +kernel
theorem dL_law_637 : decode cL_law 637 = .ok (.aload_n 1, 1) := by decide +kernel
theorem dL_law_638 : decode cL_law 638 = .ok (.aload_n 0, 1) := by decide +kernel
theorem dL_law_639 : decode cL_law 639 = .ok (.iload_n 3, 1) := by decide +kernel
theorem dL_law_640 : decode cL_law 640 = .ok (.iconst 1, 1) := by decide +kernel
theorem dL_law_641 : decode cL_law 641 = .ok (.iadd, 1) := by decide +kernel
theorem dL_law_642 : decode cL_law 642 = .ok (.iaload, 1) := by decide +kernel
theorem dL_law_643 : decode cL_law 643 = .ok (.invokevirtual 78, 3) := by decide +kernel
theorem dL_law_646 : decode cL_law 646 = .ok (.aload_n 2, 1) := by decide +kernel
theorem dL_law_647 : decode cL_law 647 = .ok (.aload_n 0, 1) := by decide +kernel
theorem dL_law_648 : decode cL_law 648 = .ok (.iload_n 3, 1) := by decide +kernel
theorem dL_law_649 : decode cL_law 649 = .ok (.iconst 1, 1) := by decide +kernel
theorem dL_law_650 : decode cL_law 650 = .ok (.iadd, 1) := by decide +kernel
theorem dL_law_651 : decode cL_law 651 = .ok (.iaload, 1) := by decide +kernel
theorem dL_law_652 : decode cL_law 652 = .ok (.invokevirtual 81, 3) := by decide +kernel
theorem dL_law_655 : decode cL_law 655 = .ok (.if_icmp .eq 225, 3) := by decide +kernel
theorem dL_law_658 : decode cL_law 658 = .ok (.iconst 0, 1) := by decide +kernel
theorem dL_law_659 : decode cL_law 659 = .ok (.ireturn, 1) := by decide +kernel
theorem dL_law_660 : decode cL_law 660 = .ok (.aload_n 1, 1) := by decide +kernel
theorem dL_law_661 : decode cL_law 661 = .ok (.aload_n 0, 1) := by decide +kernel
theorem dL_law_662 : decode cL_law 662 = .ok (.iload_n 3, 1) := by decide +kernel
theorem dL_law_663 : decode cL_law 663 = .ok (.iconst 1, 1) := by decide +kernel
theorem dL_law_664 : decode cL_law 664 = .ok (.iadd, 1) := by decide +kernel
theorem dL_law_665 : decode cL_law 665 = .ok (.iaload, 1) := by decide +kernel
theorem dL_law_666 : decode cL_law 666 = .ok (.aload_n 0, 1) := by decide +kernel
theorem dL_law_667 : decode cL_law 667 = .ok (.iload_n 3, 1) := by decide +kernel
theorem dL_law_668 : decode cL_law 668 = .ok (.iconst 2, 1) := by decide +kernel
theorem dL_law_669 : decode cL_law 669 = .ok (.iadd, 1) := by decide +kernel
theorem dL_law_670 : decode cL_law 670 = .ok (.iaload, 1) := by decide +kernel
theorem dL_law_671 : decode cL_law 671 = .ok (.invokevirtual 82, 3) := by decide +kernel
theorem dL_law_674 : decode cL_law 674 = .ok (.aload_n 2, 1) := by decide +kernel
theorem dL_law_675 : decode cL_law 675 = .ok (.aload_n 0, 1) := by decide +kernel
theorem dL_law_676 : decode cL_law 676 = .ok (.iload_n 3, 1) := by decide +kernel
theorem dL_law_677 : decode cL_law 677 = .ok (.iconst 1, 1) := by decide +kernel
theorem dL_law_678 : decode cL_law 678 = .ok (.iadd, 1) := by decide +kernel
theorem dL_law_679 : decode cL_law 679 = .ok (.iaload, 1) := by decide +kernel
theorem dL_law_680 : decode cL_law 680 = .ok (.aload_n 0, 1) := by decide +kernel
theorem dL_law_681 : decode cL_law 681 = .ok (.iload_n 3, 1) := by decide +kernel
theorem dL_law_682 : decode cL_law 682 = .ok (.iconst 2, 1) := by decide +kernel
theorem dL_law_683 : decode cL_law 683 = .ok (.iadd, 1) := by decide +kernel
theorem dL_law_684 : decode cL_law 684 = .ok (.iaload, 1) := by decide +kernel
theorem dL_law_685 : decode cL_law 685 = .ok (.invokevirtual 85, 3) := by decide +kernel
theorem dL_law_688 : decode cL_law 688 = .ok (.if_icmp .eq 192, 3) := by decide +kernel
theorem dL_law_691 : decode cL_law 691 = .ok (.iconst 0, 1) := by decide +kernel
theorem dL_law_692 : decode cL_law 692 = .ok (.ireturn, 1) := by decide +kernel
theorem dL_law_693 : decode cL_law 693 = .ok (.aload_n 1, 1) := by decide +kernel
theorem dL_law_694 : decode cL_law 694 = .ok (.aload_n 0, 1) := by decide +kernel
theorem dL_law_695 : decode cL_law 695 = .ok (.iload_n 3, 1) := by decide +kernel
theorem dL_law_696 : decode cL_law 696 = .ok (.iconst 1, 1) := by decide +kernel
theorem dL_law_697 : decode cL_law 697 = .ok (.iadd, 1) := by decide +kernel
theorem dL_law_698 : decode cL_law 698 = .ok (.iaload, 1) := by decide +kernel
theorem dL_law_699 : decode cL_law 699 = .ok (.invokevirtual 86, 3) := by decide +kernel
theorem dL_law_702 : decode cL_law 702 = .ok (.aload_n 2, 1) := by decide +kernel
theorem dL_law_703 : decode cL_law 703 = .ok (.aload_n 0, 1) := by decide +kernel
theorem dL_law_704 : decode cL_law 704 = .ok (.iload_n 3, 1) := by decide +kernel
theorem dL_law_705 : decode cL_law 705 = .ok (.iconst 1, 1) := by decide +kernel
theorem dL_law_706 : decode cL_law 706 = .ok (.iadd, 1) := by decide +kernel
theorem dL_law_707 : decode cL_law 707 = .ok (.iaload, 1) := by decide +kernel
theorem dL_law_708 : decode cL_law 708 = .ok (.invokevirtual 89, 3) := by decide +kernel
theorem dL_law_711 : decode cL_law 711 = .ok (.if_icmp .eq 169, 3) := by decide +kernel
theorem dL_law_714 : decode cL_law 714 = .ok (.iconst 0, 1) := by decide +kernel
theorem dL_law_715 : decode cL_law 715 = .ok (.ireturn, 1) := by decide +kernel
theorem dL_law_716 : decode cL_law 716 = .ok (.aload_n 1, 1) := by decide +kernel
theorem dL_law_717 : decode cL_law 717 = .ok (.invokevirtual 90, 3) := by decide +kernel
theorem dL_law_720 : decode cL_law 720 = .ok (.aload_n 2, 1) := by decide +kernel
theorem dL_law_721 : decode cL_law 721 = .ok (.invokevirtual 93, 3) := by decide +kernel
theorem dL_law_724 : decode cL_law 724 = .ok (.if_icmp .eq 156, 3) := by decide +kernel
theorem dL_law_727 : decode cL_law 727 = .ok (.iconst 0, 1) := by decide +kernel
theorem dL_law_728 : decode cL_law 728 = .ok (.ireturn, 1) := by decide +kernel
theorem dL_law_729 : decode cL_law 729 = .ok (.aload_n 1, 1) := by decide +kernel
theorem dL_law_730 : decode cL_law 730 = .ok (.aload_n 0, 1) := by decide +kernel
theorem dL_law_731 : decode cL_law 731 = .ok (.iload_n 3, 1) := by decide +kernel
theorem dL_law_732 : decode cL_law 732 = .ok (.iconst 1, 1) := by decide +kernel
theorem dL_law_733 : decode cL_law 733 = .ok (.iadd, 1) := by decide +kernel
theorem dL_law_734 : decode cL_law 734 = .ok (.iaload, 1) := by decide +kernel
theorem dL_law_735 : decode cL_law 735 = .ok (.i2l, 1) := by decide +kernel
theorem dL_law_736 : decode cL_law 736 = .ok (.bipush 32, 2) := by decide +kernel
theorem dL_law_738 : decode cL_law 738 = .ok (.lshl, 1) := by decide +kernel
theorem dL_law_739 : decode cL_law 739 = .ok (.aload_n 0, 1) := by decide +kernel
theorem dL_law_740 : decode cL_law 740 = .ok (.iload_n 3, 1) := by decide +kernel
theorem dL_law_741 : decode cL_law 741 = .ok (.iconst 2, 1) := by decide +kernel
theorem dL_law_742 : decode cL_law 742 = .ok (.iadd, 1) := by decide +kernel
theorem dL_law_743 : decode cL_law 743 = .ok (.iaload, 1) := by decide +kernel
theorem dL_law_744 : decode cL_law 744 = .ok (.i2l, 1) := by decide +kernel
theorem dL_law_745 : decode cL_law 745 = .ok (.ldc2_w 94, 3) := by decide +kernel
theorem dL_law_748 : decode cL_law 748 = .ok (.land, 1) := by decide +kernel
theorem dL_law_749 : decode cL_law 749 = .ok (.lor, 1) := by decide +kernel
theorem dL_law_750 : decode cL_law 750 = .ok (.invokevirtual 96, 3) := by decide +kernel
theorem dL_law_753 : decode cL_law 753 = .ok (.aload_n 2, 1) := by decide +kernel
theorem dL_law_754 : decode cL_law 754 = .ok (.aload_n 0, 1) := by decide +kernel
theorem dL_law_755 : decode cL_law 755 = .ok (.iload_n 3, 1) := by decide +kernel
theorem dL_law_756 : decode cL_law 756 = .ok (.iconst 1, 1) := by decide +kernel
theorem dL_law_757 : decode cL_law 757 = .ok (.iadd, 1) := by decide +kernel
theorem dL_law_758 : decode cL_law 758 = .ok (.iaload, 1) := by decide +kernel
theorem dL_law_759 : decode cL_law 759 = .ok (.i2l, 1) := by decide +kernel
theorem dL_law_760 : decode cL_law 760 = .ok (.bipush 32, 2) := by decide +kernel
theorem dL_law_762 : decode cL_law 762 = .ok (.lshl, 1) := by decide +kernel
theorem dL_law_763 : decode cL_law 763 = .ok (.aload_n 0, 1) := by decide +kernel
theorem dL_law_764 : decode cL_law 764 = .ok (.iload_n 3, 1) := by decide +kernel
theorem dL_law_765 : decode cL_law 765 = .ok (.iconst 2, 1) := by decide +kernel
theorem dL_law_766 : decode cL_law 766 = .ok (.iadd, 1) := by decide +kernel
theorem dL_law_767 : decode cL_law 767 = .ok (.iaload, 1) := by decide +kernel
theorem dL_law_768 : decode cL_law 768 = .ok (.i2l, 1) := by decide +kernel
theorem dL_law_769 : decode cL_law 769 = .ok (.ldc2_w 94, 3) := by decide +kernel
theorem dL_law_772 : decode cL_law 772 = .ok (.land, 1) := by decide +kernel
theorem dL_law_773 : decode cL_law 773 = .ok (.lor, 1) := by decide +kernel
theorem dL_law_774 : decode cL_law 774 = .ok (.invokevirtual 100, 3) := by decide +kernel
theorem dL_law_777 : decode cL_law 777 = .ok (.if_icmp .eq 103, 3) := by decide +kernel
theorem dL_law_780 : decode cL_law 780 = .ok (.iconst 0, 1) := by decide +kernel
theorem dL_law_781 : decode cL_law 781 = .ok (.ireturn, 1) := by decide +kernel
theorem dL_law_782 : decode cL_law 782 = .ok (.aload_n 1, 1) := by decide +kernel
theorem dL_law_783 : decode cL_law 783 = .ok (.invokevirtual 101, 3) := by decide +kernel
theorem dL_law_786 : decode cL_law 786 = .ok (.aload_n 2, 1) := by decide +kernel
theorem dL_law_787 : decode cL_law 787 = .ok (.invokevirtual 104, 3) := by decide +kernel
theorem dL_law_790 : decode cL_law 790 = .ok (.if_icmp .eq 90, 3) := by decide +kernel
theorem dL_law_793 : decode cL_law 793 = .ok (.iconst 0, 1) := by decide +kernel
theorem dL_law_794 : decode cL_law 794 = .ok (.ireturn, 1) := by decide +kernel
theorem dL_law_795 : decode cL_law 795 = .ok (.aload_n 1, 1) := by decide +kernel
theorem dL_law_796 : decode cL_law 796 = .ok (.invokevirtual 105, 3) := by decide +kernel
theorem dL_law_799 : decode cL_law 799 = .ok (.aload_n 2, 1) := by decide +kernel
theorem dL_law_800 : decode cL_law 800 = .ok (.invokevirtual 108, 3) := by decide +kernel
theorem dL_law_803 : decode cL_law 803 = .ok (.if_icmp .eq 77, 3) := by decide +kernel
theorem dL_law_806 : decode cL_law 806 = .ok (.iconst 0, 1) := by decide +kernel
theorem dL_law_807 : decode cL_law 807 = .ok (.ireturn, 1) := by decide +kernel
theorem dL_law_808 : decode cL_law 808 = .ok (.aload_n 1, 1) := by decide +kernel
theorem dL_law_809 : decode cL_law 809 = .ok (.invokevirtual 109, 3) := by decide +kernel
theorem dL_law_812 : decode cL_law 812 = .ok (.aload_n 2, 1) := by decide +kernel
theorem dL_law_813 : decode cL_law 813 = .ok (.invokevirtual 112, 3) := by decide +kernel
theorem dL_law_816 : decode cL_law 816 = .ok (.if_icmp .eq 64, 3) := by decide +kernel
theorem dL_law_819 : decode cL_law 819 = .ok (.iconst 0, 1) := by decide +kernel
theorem dL_law_820 : decode cL_law 820 = .ok (.ireturn, 1) := by decide +kernel
theorem dL_law_821 : decode cL_law 821 = .ok (.aload_n 1, 1) := by decide +kernel
theorem dL_law_822 : decode cL_law 822 = .ok (.invokevirtual 113, 3) := by decide +kernel
theorem dL_law_825 : decode cL_law 825 = .ok (.aload_n 2, 1) := by decide +kernel
theorem dL_law_826 : decode cL_law 826 = .ok (.invokevirtual 116, 3) := by decide +kernel
theorem dL_law_829 : decode cL_law 829 = .ok (.if_icmp .eq 51, 3) := by decide +kernel
theorem dL_law_832 : decode cL_law 832 = .ok (.iconst 0, 1) := by decide +kernel
theorem dL_law_833 : decode cL_law 833 = .ok (.ireturn, 1) := by decide +kernel
theorem dL_law_834 : decode cL_law 834 = .ok (.aload_n 1, 1) := by decide +kernel
theorem dL_law_835 : decode cL_law 835 = .ok (.aload_n 0, 1) := by decide +kernel
theorem dL_law_836 : decode cL_law 836 = .ok (.iload_n 3, 1) := by decide +kernel
theorem dL_law_837 : decode cL_law 837 = .ok (.iconst 1, 1) := by decide +kernel
theorem dL_law_838 : decode cL_law 838 = .ok (.iadd, 1) := by decide +kernel
theorem dL_law_839 : decode cL_law 839 = .ok (.iaload, 1) := by decide +kernel
theorem dL_law_840 : decode cL_law 840 = .ok (.invokevirtual 117, 3) := by decide +kernel
theorem dL_law_843 : decode cL_law 843 = .ok (.aload_n 2, 1) := by decide +kernel
theorem dL_law_844 : decode cL_law 844 = .ok (.aload_n 0, 1) := by decide +kernel
theorem dL_law_845 : decode cL_law 845 = .ok (.iload_n 3, 1) := by decide +kernel
theorem dL_law_846 : decode cL_law 846 = .ok (.iconst 1, 1) := by decide +kernel
theorem dL_law_847 : decode cL_law 847 = .ok (.iadd, 1) := by decide +kernel
theorem dL_law_848 : decode cL_law 848 = .ok (.iaload, 1) := by decide +kernel
theorem dL_law_849 : decode cL_law 849 = .ok (.invokevirtual 120, 3) := by decide +kernel
theorem dL_law_852 : decode cL_law 852 = .ok (.if_icmp .eq 28, 3) := by decide +kernel
theorem dL_law_855 : decode cL_law 855 = .ok (.iconst 0, 1) := by decide +kernel
theorem dL_law_856 : decode cL_law 856 = .ok (.ireturn, 1) := by decide +kernel
theorem dL_law_857 : decode cL_law 857 = .ok (.aload_n 1, 1) := by decide +kernel
theorem dL_law_858 : decode cL_law 858 = .ok (.aload_n 0, 1) := by decide +kernel
theorem dL_law_859 : decode cL_law 859 = .ok (.iload_n 3, 1) := by decide +kernel
theorem dL_law_860 : decode cL_law 860 = .ok (.iconst 1, 1) := by decide +kernel
theorem dL_law_861 : decode cL_law 861 = .ok (.iadd, 1) := by decide +kernel
theorem dL_law_862 : decode cL_law 862 = .ok (.iaload, 1) := by decide +kernel
theorem dL_law_863 : decode cL_law 863 = .ok (.invokevirtual 121, 3) := by decide +kernel
theorem dL_law_866 : decode cL_law 866 = .ok (.aload_n 2, 1) := by decide +kernel
theorem dL_law_867 : decode cL_law 867 = .ok (.aload_n 0, 1) := by decide +kernel
theorem dL_law_868 : decode cL_law 868 = .ok (.iload_n 3, 1) := by decide +kernel
theorem dL_law_869 : decode cL_law 869 = .ok (.iconst 1, 1) := by decide +kernel
theorem dL_law_870 : decode cL_law 870 = .ok (.iadd, 1) := by decide +kernel
theorem dL_law_871 : decode cL_law 871 = .ok (.iaload, 1) := by decide +kernel
theorem dL_law_872 : decode cL_law 872 = .ok (.invokevirtual 124, 3) := by decide +kernel
theorem dL_law_875 : decode cL_law 875 = .ok (.if_icmp .eq 5, 3) := by decide +kernel
theorem dL_law_878 : decode cL_law 878 = .ok (.iconst 0, 1) := by decide +kernel
theorem dL_law_879 : decode cL_law 879 = .ok (.ireturn, 1) := by decide +kernel
theorem dL_law_880 : decode cL_law 880 = .ok (.iinc 3 5, 3) := by decide +kernel
theorem dL_law_883 : decode cL_law 883 = .ok (.goto (-865), 3) := by decide +kernel
theorem dL_law_886 : decode cL_law 886 = .ok (.iconst 1, 1) := by decide +kernel
theorem dL_law_887 : decode cL_law 887 = .ok (.ireturn, 1) := by decide +kernel
end
section
-- the tables' words in one list; what a field row, a call row asks of it
abbrev kcl : List vw_C := [(RX0, TX0, 3), (RX1, TX1, 16), (RX2, TX2, 2), (RX3, TX3, 11), (RX4, TX4, 4), (RX5, TX5, 3), (RX6, TX6, 6), (RX7, TX7, 13)]
def TB : List Cond := lw_tbl.filter goodWord
theorem tb_in {w : Cond} (i : Nat) (h : lw_tbl[i]? = some w) (hg : goodWord w = true) : w ∈ TB := List.mem_filter.mpr ⟨List.mem_of_getElem? h, hg⟩
theorem tb_gd {w : Cond} (h : w ∈ TB) : goodWord w = true := (List.mem_filter.mp h).2
theorem tb_tbl {w : Cond} (h : w ∈ TB) : w ∈ lw_tbl := (List.mem_filter.mp h).1
theorem tb_gin {c : Cond} (h : c ∈ TB) : GoodIn TB (c :: TB) := fun w hw => by
  rcases List.mem_cons.mp hw with rfl | hw
  · exact ⟨h, good_of_word (tb_gd h)⟩
  · exact ⟨hw, good_of_word (tb_gd hw)⟩
theorem lz_0_0 : u_lay RX0 TX0 0 ∈ TB := tb_in 217 (by decide +kernel) (by decide +kernel)
theorem lz_0_1 : u_lay RX0 TX0 1 ∈ TB := tb_in 219 (by decide +kernel) (by decide +kernel)
theorem lz_0_2 : u_lay RX0 TX0 2 ∈ TB := tb_in 221 (by decide +kernel) (by decide +kernel)
theorem ls_0 : ∀ w ∈ u_ws RX0 TX0 3, w ∈ TB := fun w hw => by
  obtain ⟨j, hj, rfl⟩ := List.mem_map.mp hw
  have hj := List.mem_range.mp hj
  match j, hj with
  | 0, _ => exact lz_0_0
  | 1, _ => exact lz_0_1
  | 2, _ => exact lz_0_2
  | j + 3, hj => exact absurd hj (by omega)
theorem lz_1_0 : u_lay RX1 TX1 0 ∈ TB := tb_in 91 (by decide +kernel) (by decide +kernel)
theorem lz_1_1 : u_lay RX1 TX1 1 ∈ TB := tb_in 93 (by decide +kernel) (by decide +kernel)
theorem lz_1_2 : u_lay RX1 TX1 2 ∈ TB := tb_in 95 (by decide +kernel) (by decide +kernel)
theorem lz_1_3 : u_lay RX1 TX1 3 ∈ TB := tb_in 97 (by decide +kernel) (by decide +kernel)
theorem lz_1_4 : u_lay RX1 TX1 4 ∈ TB := tb_in 99 (by decide +kernel) (by decide +kernel)
theorem lz_1_5 : u_lay RX1 TX1 5 ∈ TB := tb_in 101 (by decide +kernel) (by decide +kernel)
theorem lz_1_6 : u_lay RX1 TX1 6 ∈ TB := tb_in 103 (by decide +kernel) (by decide +kernel)
theorem lz_1_7 : u_lay RX1 TX1 7 ∈ TB := tb_in 105 (by decide +kernel) (by decide +kernel)
theorem lz_1_8 : u_lay RX1 TX1 8 ∈ TB := tb_in 107 (by decide +kernel) (by decide +kernel)
theorem lz_1_9 : u_lay RX1 TX1 9 ∈ TB := tb_in 109 (by decide +kernel) (by decide +kernel)
theorem lz_1_10 : u_lay RX1 TX1 10 ∈ TB := tb_in 111 (by decide +kernel) (by decide +kernel)
theorem lz_1_11 : u_lay RX1 TX1 11 ∈ TB := tb_in 113 (by decide +kernel) (by decide +kernel)
theorem lz_1_12 : u_lay RX1 TX1 12 ∈ TB := tb_in 115 (by decide +kernel) (by decide +kernel)
theorem lz_1_13 : u_lay RX1 TX1 13 ∈ TB := tb_in 117 (by decide +kernel) (by decide +kernel)
theorem lz_1_14 : u_lay RX1 TX1 14 ∈ TB := tb_in 119 (by decide +kernel) (by decide +kernel)
theorem lz_1_15 : u_lay RX1 TX1 15 ∈ TB := tb_in 121 (by decide +kernel) (by decide +kernel)
theorem ls_1 : ∀ w ∈ u_ws RX1 TX1 16, w ∈ TB := fun w hw => by
  obtain ⟨j, hj, rfl⟩ := List.mem_map.mp hw
  have hj := List.mem_range.mp hj
  match j, hj with
  | 0, _ => exact lz_1_0
  | 1, _ => exact lz_1_1
  | 2, _ => exact lz_1_2
  | 3, _ => exact lz_1_3
  | 4, _ => exact lz_1_4
  | 5, _ => exact lz_1_5
  | 6, _ => exact lz_1_6
  | 7, _ => exact lz_1_7
  | 8, _ => exact lz_1_8
  | 9, _ => exact lz_1_9
  | 10, _ => exact lz_1_10
  | 11, _ => exact lz_1_11
  | 12, _ => exact lz_1_12
  | 13, _ => exact lz_1_13
  | 14, _ => exact lz_1_14
  | 15, _ => exact lz_1_15
  | j + 16, hj => exact absurd hj (by omega)
theorem lz_2_0 : u_lay RX2 TX2 0 ∈ TB := tb_in 234 (by decide +kernel) (by decide +kernel)
theorem lz_2_1 : u_lay RX2 TX2 1 ∈ TB := tb_in 236 (by decide +kernel) (by decide +kernel)
theorem ls_2 : ∀ w ∈ u_ws RX2 TX2 2, w ∈ TB := fun w hw => by
  obtain ⟨j, hj, rfl⟩ := List.mem_map.mp hw
  have hj := List.mem_range.mp hj
  match j, hj with
  | 0, _ => exact lz_2_0
  | 1, _ => exact lz_2_1
  | j + 2, hj => exact absurd hj (by omega)
theorem lz_3_0 : u_lay RX3 TX3 0 ∈ TB := tb_in 181 (by decide +kernel) (by decide +kernel)
theorem lz_3_1 : u_lay RX3 TX3 1 ∈ TB := tb_in 183 (by decide +kernel) (by decide +kernel)
theorem lz_3_2 : u_lay RX3 TX3 2 ∈ TB := tb_in 185 (by decide +kernel) (by decide +kernel)
theorem lz_3_3 : u_lay RX3 TX3 3 ∈ TB := tb_in 187 (by decide +kernel) (by decide +kernel)
theorem lz_3_4 : u_lay RX3 TX3 4 ∈ TB := tb_in 189 (by decide +kernel) (by decide +kernel)
theorem lz_3_5 : u_lay RX3 TX3 5 ∈ TB := tb_in 191 (by decide +kernel) (by decide +kernel)
theorem lz_3_6 : u_lay RX3 TX3 6 ∈ TB := tb_in 193 (by decide +kernel) (by decide +kernel)
theorem lz_3_7 : u_lay RX3 TX3 7 ∈ TB := tb_in 195 (by decide +kernel) (by decide +kernel)
theorem lz_3_8 : u_lay RX3 TX3 8 ∈ TB := tb_in 197 (by decide +kernel) (by decide +kernel)
theorem lz_3_9 : u_lay RX3 TX3 9 ∈ TB := tb_in 199 (by decide +kernel) (by decide +kernel)
theorem lz_3_10 : u_lay RX3 TX3 10 ∈ TB := tb_in 201 (by decide +kernel) (by decide +kernel)
theorem ls_3 : ∀ w ∈ u_ws RX3 TX3 11, w ∈ TB := fun w hw => by
  obtain ⟨j, hj, rfl⟩ := List.mem_map.mp hw
  have hj := List.mem_range.mp hj
  match j, hj with
  | 0, _ => exact lz_3_0
  | 1, _ => exact lz_3_1
  | 2, _ => exact lz_3_2
  | 3, _ => exact lz_3_3
  | 4, _ => exact lz_3_4
  | 5, _ => exact lz_3_5
  | 6, _ => exact lz_3_6
  | 7, _ => exact lz_3_7
  | 8, _ => exact lz_3_8
  | 9, _ => exact lz_3_9
  | 10, _ => exact lz_3_10
  | j + 11, hj => exact absurd hj (by omega)
theorem lz_4_0 : u_lay RX4 TX4 0 ∈ TB := tb_in 160 (by decide +kernel) (by decide +kernel)
theorem lz_4_1 : u_lay RX4 TX4 1 ∈ TB := tb_in 162 (by decide +kernel) (by decide +kernel)
theorem lz_4_2 : u_lay RX4 TX4 2 ∈ TB := tb_in 164 (by decide +kernel) (by decide +kernel)
theorem lz_4_3 : u_lay RX4 TX4 3 ∈ TB := tb_in 166 (by decide +kernel) (by decide +kernel)
theorem ls_4 : ∀ w ∈ u_ws RX4 TX4 4, w ∈ TB := fun w hw => by
  obtain ⟨j, hj, rfl⟩ := List.mem_map.mp hw
  have hj := List.mem_range.mp hj
  match j, hj with
  | 0, _ => exact lz_4_0
  | 1, _ => exact lz_4_1
  | 2, _ => exact lz_4_2
  | 3, _ => exact lz_4_3
  | j + 4, hj => exact absurd hj (by omega)
theorem lz_5_0 : u_lay RX5 TX5 0 ∈ TB := tb_in 138 (by decide +kernel) (by decide +kernel)
theorem lz_5_1 : u_lay RX5 TX5 1 ∈ TB := tb_in 140 (by decide +kernel) (by decide +kernel)
theorem lz_5_2 : u_lay RX5 TX5 2 ∈ TB := tb_in 142 (by decide +kernel) (by decide +kernel)
theorem ls_5 : ∀ w ∈ u_ws RX5 TX5 3, w ∈ TB := fun w hw => by
  obtain ⟨j, hj, rfl⟩ := List.mem_map.mp hw
  have hj := List.mem_range.mp hj
  match j, hj with
  | 0, _ => exact lz_5_0
  | 1, _ => exact lz_5_1
  | 2, _ => exact lz_5_2
  | j + 3, hj => exact absurd hj (by omega)
theorem lz_6_0 : u_lay RX6 TX6 0 ∈ TB := tb_in 246 (by decide +kernel) (by decide +kernel)
theorem lz_6_1 : u_lay RX6 TX6 1 ∈ TB := tb_in 248 (by decide +kernel) (by decide +kernel)
theorem lz_6_2 : u_lay RX6 TX6 2 ∈ TB := tb_in 250 (by decide +kernel) (by decide +kernel)
theorem lz_6_3 : u_lay RX6 TX6 3 ∈ TB := tb_in 252 (by decide +kernel) (by decide +kernel)
theorem lz_6_4 : u_lay RX6 TX6 4 ∈ TB := tb_in 254 (by decide +kernel) (by decide +kernel)
theorem lz_6_5 : u_lay RX6 TX6 5 ∈ TB := tb_in 256 (by decide +kernel) (by decide +kernel)
theorem ls_6 : ∀ w ∈ u_ws RX6 TX6 6, w ∈ TB := fun w hw => by
  obtain ⟨j, hj, rfl⟩ := List.mem_map.mp hw
  have hj := List.mem_range.mp hj
  match j, hj with
  | 0, _ => exact lz_6_0
  | 1, _ => exact lz_6_1
  | 2, _ => exact lz_6_2
  | 3, _ => exact lz_6_3
  | 4, _ => exact lz_6_4
  | 5, _ => exact lz_6_5
  | j + 6, hj => exact absurd hj (by omega)
theorem lz_7_0 : u_lay RX7 TX7 0 ∈ TB := tb_in 652 (by decide +kernel) (by decide +kernel)
theorem lz_7_1 : u_lay RX7 TX7 1 ∈ TB := tb_in 654 (by decide +kernel) (by decide +kernel)
theorem lz_7_2 : u_lay RX7 TX7 2 ∈ TB := tb_in 656 (by decide +kernel) (by decide +kernel)
theorem lz_7_3 : u_lay RX7 TX7 3 ∈ TB := tb_in 658 (by decide +kernel) (by decide +kernel)
theorem lz_7_4 : u_lay RX7 TX7 4 ∈ TB := tb_in 660 (by decide +kernel) (by decide +kernel)
theorem lz_7_5 : u_lay RX7 TX7 5 ∈ TB := tb_in 662 (by decide +kernel) (by decide +kernel)
theorem lz_7_6 : u_lay RX7 TX7 6 ∈ TB := tb_in 664 (by decide +kernel) (by decide +kernel)
theorem lz_7_7 : u_lay RX7 TX7 7 ∈ TB := tb_in 666 (by decide +kernel) (by decide +kernel)
theorem lz_7_8 : u_lay RX7 TX7 8 ∈ TB := tb_in 668 (by decide +kernel) (by decide +kernel)
theorem lz_7_9 : u_lay RX7 TX7 9 ∈ TB := tb_in 670 (by decide +kernel) (by decide +kernel)
theorem lz_7_10 : u_lay RX7 TX7 10 ∈ TB := tb_in 672 (by decide +kernel) (by decide +kernel)
theorem lz_7_11 : u_lay RX7 TX7 11 ∈ TB := tb_in 674 (by decide +kernel) (by decide +kernel)
theorem lz_7_12 : u_lay RX7 TX7 12 ∈ TB := tb_in 676 (by decide +kernel) (by decide +kernel)
theorem ls_7 : ∀ w ∈ u_ws RX7 TX7 13, w ∈ TB := fun w hw => by
  obtain ⟨j, hj, rfl⟩ := List.mem_map.mp hw
  have hj := List.mem_range.mp hj
  match j, hj with
  | 0, _ => exact lz_7_0
  | 1, _ => exact lz_7_1
  | 2, _ => exact lz_7_2
  | 3, _ => exact lz_7_3
  | 4, _ => exact lz_7_4
  | 5, _ => exact lz_7_5
  | 6, _ => exact lz_7_6
  | 7, _ => exact lz_7_7
  | 8, _ => exact lz_7_8
  | 9, _ => exact lz_7_9
  | 10, _ => exact lz_7_10
  | 11, _ => exact lz_7_11
  | 12, _ => exact lz_7_12
  | j + 13, hj => exact absurd hj (by omega)
/-- a field as an instruction names it: class ci of kcl, its slot k -/
def FW (own : String) (ix ci k : Nat) : Prop := ∃ q : vw_C, kcl[ci]? = some q ∧ k < q.2.2 ∧ Cond.fieldLink own ix q.1 (q.2.1 k).2.1 (q.2.1 k).2.2.1 ∈ TB ∧ (∀ w ∈ u_ws q.1 q.2.1 q.2.2, w ∈ TB) ∧ (q.2.1 k).1 = q.1
def FT (ci k : Nat) (ty : FieldType) (fin : Bool) : Prop := ∃ (q : vw_C) (ty0 : Nat → FieldType), kcl[ci]? = some q ∧ (∀ k, k < q.2.2 → parseFieldDescriptor (q.2.1 k).2.2.1 = some (ty0 k)) ∧ (∀ a, a < q.2.2 → ∀ b, b < q.2.2 → a ≠ b → (q.2.1 a).2.1 ≠ (q.2.1 b).2.1) ∧ ty0 k = ty ∧ (q.2.1 k).2.2.2 = fin
theorem fw_X1_52 : FW RX1 52 1 0 := ⟨(RX1, TX1, 16), rfl, by decide, tb_in 67 (by decide +kernel) rfl, ls_1, rfl⟩
theorem fw_X3_107 : FW RX3 107 1 0 := ⟨(RX1, TX1, 16), rfl, by decide, tb_in 68 (by decide +kernel) rfl, ls_1, rfl⟩
theorem fw_X1_55 : FW RX1 55 1 1 := ⟨(RX1, TX1, 16), rfl, by decide, tb_in 69 (by decide +kernel) rfl, ls_1, rfl⟩
theorem fw_X3_211 : FW RX3 211 1 1 := ⟨(RX1, TX1, 16), rfl, by decide, tb_in 70 (by decide +kernel) rfl, ls_1, rfl⟩
theorem fw_X1_58 : FW RX1 58 1 2 := ⟨(RX1, TX1, 16), rfl, by decide, tb_in 71 (by decide +kernel) rfl, ls_1, rfl⟩
theorem fw_X1_9 : FW RX1 9 1 3 := ⟨(RX1, TX1, 16), rfl, by decide, tb_in 72 (by decide +kernel) rfl, ls_1, rfl⟩
theorem fw_X3_110 : FW RX3 110 1 3 := ⟨(RX1, TX1, 16), rfl, by decide, tb_in 73 (by decide +kernel) rfl, ls_1, rfl⟩
theorem fw_X1_15 : FW RX1 15 1 4 := ⟨(RX1, TX1, 16), rfl, by decide, tb_in 74 (by decide +kernel) rfl, ls_1, rfl⟩
theorem fw_X3_137 : FW RX3 137 1 4 := ⟨(RX1, TX1, 16), rfl, by decide, tb_in 75 (by decide +kernel) rfl, ls_1, rfl⟩
theorem fw_X1_18 : FW RX1 18 1 5 := ⟨(RX1, TX1, 16), rfl, by decide, tb_in 76 (by decide +kernel) rfl, ls_1, rfl⟩
theorem fw_X3_192 : FW RX3 192 1 5 := ⟨(RX1, TX1, 16), rfl, by decide, tb_in 77 (by decide +kernel) rfl, ls_1, rfl⟩
theorem fw_X1_21 : FW RX1 21 1 6 := ⟨(RX1, TX1, 16), rfl, by decide, tb_in 78 (by decide +kernel) rfl, ls_1, rfl⟩
theorem fw_X3_164 : FW RX3 164 1 6 := ⟨(RX1, TX1, 16), rfl, by decide, tb_in 79 (by decide +kernel) rfl, ls_1, rfl⟩
theorem fw_X1_25 : FW RX1 25 1 7 := ⟨(RX1, TX1, 16), rfl, by decide, tb_in 80 (by decide +kernel) rfl, ls_1, rfl⟩
theorem fw_X1_28 : FW RX1 28 1 8 := ⟨(RX1, TX1, 16), rfl, by decide, tb_in 81 (by decide +kernel) rfl, ls_1, rfl⟩
theorem fw_X3_134 : FW RX3 134 1 8 := ⟨(RX1, TX1, 16), rfl, by decide, tb_in 82 (by decide +kernel) rfl, ls_1, rfl⟩
theorem fw_X1_31 : FW RX1 31 1 9 := ⟨(RX1, TX1, 16), rfl, by decide, tb_in 83 (by decide +kernel) rfl, ls_1, rfl⟩
theorem fw_X1_34 : FW RX1 34 1 10 := ⟨(RX1, TX1, 16), rfl, by decide, tb_in 84 (by decide +kernel) rfl, ls_1, rfl⟩
theorem fw_X1_37 : FW RX1 37 1 11 := ⟨(RX1, TX1, 16), rfl, by decide, tb_in 85 (by decide +kernel) rfl, ls_1, rfl⟩
theorem fw_X1_40 : FW RX1 40 1 12 := ⟨(RX1, TX1, 16), rfl, by decide, tb_in 86 (by decide +kernel) rfl, ls_1, rfl⟩
theorem fw_X1_43 : FW RX1 43 1 13 := ⟨(RX1, TX1, 16), rfl, by decide, tb_in 87 (by decide +kernel) rfl, ls_1, rfl⟩
theorem fw_X1_46 : FW RX1 46 1 14 := ⟨(RX1, TX1, 16), rfl, by decide, tb_in 88 (by decide +kernel) rfl, ls_1, rfl⟩
theorem fw_X1_49 : FW RX1 49 1 15 := ⟨(RX1, TX1, 16), rfl, by decide, tb_in 89 (by decide +kernel) rfl, ls_1, rfl⟩
theorem fw_X3_208 : FW RX3 208 1 15 := ⟨(RX1, TX1, 16), rfl, by decide, tb_in 90 (by decide +kernel) rfl, ls_1, rfl⟩
theorem fw_X5_9 : FW RX5 9 5 0 := ⟨(RX5, TX5, 3), rfl, by decide, tb_in 132 (by decide +kernel) rfl, ls_5, rfl⟩
theorem fw_X3_114 : FW RX3 114 5 0 := ⟨(RX5, TX5, 3), rfl, by decide, tb_in 133 (by decide +kernel) rfl, ls_5, rfl⟩
theorem fw_X5_15 : FW RX5 15 5 1 := ⟨(RX5, TX5, 3), rfl, by decide, tb_in 134 (by decide +kernel) rfl, ls_5, rfl⟩
theorem fw_X3_117 : FW RX3 117 5 1 := ⟨(RX5, TX5, 3), rfl, by decide, tb_in 135 (by decide +kernel) rfl, ls_5, rfl⟩
theorem fw_X5_18 : FW RX5 18 5 2 := ⟨(RX5, TX5, 3), rfl, by decide, tb_in 136 (by decide +kernel) rfl, ls_5, rfl⟩
theorem fw_X3_120 : FW RX3 120 5 2 := ⟨(RX5, TX5, 3), rfl, by decide, tb_in 137 (by decide +kernel) rfl, ls_5, rfl⟩
theorem fw_X4_9 : FW RX4 9 4 0 := ⟨(RX4, TX4, 4), rfl, by decide, tb_in 152 (by decide +kernel) rfl, ls_4, rfl⟩
theorem fw_X3_173 : FW RX3 173 4 0 := ⟨(RX4, TX4, 4), rfl, by decide, tb_in 153 (by decide +kernel) rfl, ls_4, rfl⟩
theorem fw_X4_15 : FW RX4 15 4 1 := ⟨(RX4, TX4, 4), rfl, by decide, tb_in 154 (by decide +kernel) rfl, ls_4, rfl⟩
theorem fw_X3_174 : FW RX3 174 4 1 := ⟨(RX4, TX4, 4), rfl, by decide, tb_in 155 (by decide +kernel) rfl, ls_4, rfl⟩
theorem fw_X4_18 : FW RX4 18 4 2 := ⟨(RX4, TX4, 4), rfl, by decide, tb_in 156 (by decide +kernel) rfl, ls_4, rfl⟩
theorem fw_X3_179 : FW RX3 179 4 2 := ⟨(RX4, TX4, 4), rfl, by decide, tb_in 157 (by decide +kernel) rfl, ls_4, rfl⟩
theorem fw_X4_21 : FW RX4 21 4 3 := ⟨(RX4, TX4, 4), rfl, by decide, tb_in 158 (by decide +kernel) rfl, ls_4, rfl⟩
theorem fw_X3_182 : FW RX3 182 4 3 := ⟨(RX4, TX4, 4), rfl, by decide, tb_in 159 (by decide +kernel) rfl, ls_4, rfl⟩
theorem fw_X3_44 : FW RX3 44 3 0 := ⟨(RX3, TX3, 11), rfl, by decide, tb_in 169 (by decide +kernel) rfl, ls_3, rfl⟩
theorem fw_X6_152 : FW RX6 152 3 0 := ⟨(RX3, TX3, 11), rfl, by decide, tb_in 170 (by decide +kernel) rfl, ls_3, rfl⟩
theorem fw_X3_18 : FW RX3 18 3 1 := ⟨(RX3, TX3, 11), rfl, by decide, tb_in 171 (by decide +kernel) rfl, ls_3, rfl⟩
theorem fw_X3_25 : FW RX3 25 3 2 := ⟨(RX3, TX3, 11), rfl, by decide, tb_in 172 (by decide +kernel) rfl, ls_3, rfl⟩
theorem fw_X3_54 : FW RX3 54 3 3 := ⟨(RX3, TX3, 11), rfl, by decide, tb_in 173 (by decide +kernel) rfl, ls_3, rfl⟩
theorem fw_X3_32 : FW RX3 32 3 4 := ⟨(RX3, TX3, 11), rfl, by decide, tb_in 174 (by decide +kernel) rfl, ls_3, rfl⟩
theorem fw_X3_61 : FW RX3 61 3 5 := ⟨(RX3, TX3, 11), rfl, by decide, tb_in 175 (by decide +kernel) rfl, ls_3, rfl⟩
theorem fw_X3_39 : FW RX3 39 3 6 := ⟨(RX3, TX3, 11), rfl, by decide, tb_in 176 (by decide +kernel) rfl, ls_3, rfl⟩
theorem fw_X3_67 : FW RX3 67 3 7 := ⟨(RX3, TX3, 11), rfl, by decide, tb_in 177 (by decide +kernel) rfl, ls_3, rfl⟩
theorem fw_X3_73 : FW RX3 73 3 8 := ⟨(RX3, TX3, 11), rfl, by decide, tb_in 178 (by decide +kernel) rfl, ls_3, rfl⟩
theorem fw_X3_76 : FW RX3 76 3 9 := ⟨(RX3, TX3, 11), rfl, by decide, tb_in 179 (by decide +kernel) rfl, ls_3, rfl⟩
theorem fw_X3_79 : FW RX3 79 3 10 := ⟨(RX3, TX3, 11), rfl, by decide, tb_in 180 (by decide +kernel) rfl, ls_3, rfl⟩
theorem fw_X0_11 : FW RX0 11 0 0 := ⟨(RX0, TX0, 3), rfl, by decide, tb_in 213 (by decide +kernel) rfl, ls_0, rfl⟩
theorem fw_X0_18 : FW RX0 18 0 1 := ⟨(RX0, TX0, 3), rfl, by decide, tb_in 214 (by decide +kernel) rfl, ls_0, rfl⟩
theorem fw_X0_26 : FW RX0 26 0 2 := ⟨(RX0, TX0, 3), rfl, by decide, tb_in 215 (by decide +kernel) rfl, ls_0, rfl⟩
theorem fw_X6_92 : FW RX6 92 0 2 := ⟨(RX0, TX0, 3), rfl, by decide, tb_in 216 (by decide +kernel) rfl, ls_0, rfl⟩
theorem fw_X2_9 : FW RX2 9 2 0 := ⟨(RX2, TX2, 2), rfl, by decide, tb_in 231 (by decide +kernel) rfl, ls_2, rfl⟩
theorem fw_X2_19 : FW RX2 19 2 1 := ⟨(RX2, TX2, 2), rfl, by decide, tb_in 232 (by decide +kernel) rfl, ls_2, rfl⟩
theorem fw_X6_88 : FW RX6 88 2 1 := ⟨(RX2, TX2, 2), rfl, by decide, tb_in 233 (by decide +kernel) rfl, ls_2, rfl⟩
theorem fw_X6_10 : FW RX6 10 6 0 := ⟨(RX6, TX6, 6), rfl, by decide, tb_in 240 (by decide +kernel) rfl, ls_6, rfl⟩
theorem fw_X6_16 : FW RX6 16 6 1 := ⟨(RX6, TX6, 6), rfl, by decide, tb_in 241 (by decide +kernel) rfl, ls_6, rfl⟩
theorem fw_X6_19 : FW RX6 19 6 2 := ⟨(RX6, TX6, 6), rfl, by decide, tb_in 242 (by decide +kernel) rfl, ls_6, rfl⟩
theorem fw_X6_23 : FW RX6 23 6 3 := ⟨(RX6, TX6, 6), rfl, by decide, tb_in 243 (by decide +kernel) rfl, ls_6, rfl⟩
theorem fw_X6_30 : FW RX6 30 6 4 := ⟨(RX6, TX6, 6), rfl, by decide, tb_in 244 (by decide +kernel) rfl, ls_6, rfl⟩
theorem fw_X6_37 : FW RX6 37 6 5 := ⟨(RX6, TX6, 6), rfl, by decide, tb_in 245 (by decide +kernel) rfl, ls_6, rfl⟩
theorem fs_X6_119 : Cond.fieldLink RX6 119 "InterruptInn" "MOST_VALUES" "[I" ∈ TB := tb_in 525 (by decide +kernel) rfl
theorem fs_X6_123 : Cond.fieldLink RX6 123 "InterruptInn" "LEAST_VALUES" "[I" ∈ TB := tb_in 526 (by decide +kernel) rfl
theorem fw_X7_7 : FW RX7 7 7 0 := ⟨(RX7, TX7, 13), rfl, by decide, tb_in 639 (by decide +kernel) rfl, ls_7, rfl⟩
theorem fw_X7_13 : FW RX7 13 7 1 := ⟨(RX7, TX7, 13), rfl, by decide, tb_in 640 (by decide +kernel) rfl, ls_7, rfl⟩
theorem fw_X7_16 : FW RX7 16 7 2 := ⟨(RX7, TX7, 13), rfl, by decide, tb_in 641 (by decide +kernel) rfl, ls_7, rfl⟩
theorem fw_X7_36 : FW RX7 36 7 3 := ⟨(RX7, TX7, 13), rfl, by decide, tb_in 642 (by decide +kernel) rfl, ls_7, rfl⟩
theorem fw_X7_19 : FW RX7 19 7 4 := ⟨(RX7, TX7, 13), rfl, by decide, tb_in 643 (by decide +kernel) rfl, ls_7, rfl⟩
theorem fw_X7_22 : FW RX7 22 7 5 := ⟨(RX7, TX7, 13), rfl, by decide, tb_in 644 (by decide +kernel) rfl, ls_7, rfl⟩
theorem fw_X7_26 : FW RX7 26 7 6 := ⟨(RX7, TX7, 13), rfl, by decide, tb_in 645 (by decide +kernel) rfl, ls_7, rfl⟩
theorem fw_X7_108 : FW RX7 108 7 7 := ⟨(RX7, TX7, 13), rfl, by decide, tb_in 646 (by decide +kernel) rfl, ls_7, rfl⟩
theorem fw_X7_32 : FW RX7 32 7 8 := ⟨(RX7, TX7, 13), rfl, by decide, tb_in 647 (by decide +kernel) rfl, ls_7, rfl⟩
theorem fw_X7_29 : FW RX7 29 7 9 := ⟨(RX7, TX7, 13), rfl, by decide, tb_in 648 (by decide +kernel) rfl, ls_7, rfl⟩
theorem fw_X7_135 : FW RX7 135 7 10 := ⟨(RX7, TX7, 13), rfl, by decide, tb_in 649 (by decide +kernel) rfl, ls_7, rfl⟩
theorem fw_X7_123 : FW RX7 123 7 11 := ⟨(RX7, TX7, 13), rfl, by decide, tb_in 650 (by decide +kernel) rfl, ls_7, rfl⟩
theorem fw_X7_129 : FW RX7 129 7 12 := ⟨(RX7, TX7, 13), rfl, by decide, tb_in 651 (by decide +kernel) rfl, ls_7, rfl⟩
theorem ft_0_0 : FT 0 0 (tyX0 0) true := ⟨(RX0, TX0, 3), tyX0, rfl, tyX0_ok, nmX0, rfl, rfl⟩
theorem ft_0_1 : FT 0 1 .int false := ⟨(RX0, TX0, 3), tyX0, rfl, tyX0_ok, nmX0, rfl, rfl⟩
theorem ft_0_2 : FT 0 2 .int false := ⟨(RX0, TX0, 3), tyX0, rfl, tyX0_ok, nmX0, rfl, rfl⟩
theorem ft_1_0 : FT 1 0 .int false := ⟨(RX1, TX1, 16), tyX1, rfl, tyX1_ok, nmX1, rfl, rfl⟩
theorem ft_1_1 : FT 1 1 .int false := ⟨(RX1, TX1, 16), tyX1, rfl, tyX1_ok, nmX1, rfl, rfl⟩
theorem ft_1_2 : FT 1 2 .int false := ⟨(RX1, TX1, 16), tyX1, rfl, tyX1_ok, nmX1, rfl, rfl⟩
theorem ft_1_3 : FT 1 3 .boolean false := ⟨(RX1, TX1, 16), tyX1, rfl, tyX1_ok, nmX1, rfl, rfl⟩
theorem ft_1_4 : FT 1 4 .boolean false := ⟨(RX1, TX1, 16), tyX1, rfl, tyX1_ok, nmX1, rfl, rfl⟩
theorem ft_1_5 : FT 1 5 .boolean false := ⟨(RX1, TX1, 16), tyX1, rfl, tyX1_ok, nmX1, rfl, rfl⟩
theorem ft_1_6 : FT 1 6 .int false := ⟨(RX1, TX1, 16), tyX1, rfl, tyX1_ok, nmX1, rfl, rfl⟩
theorem ft_1_7 : FT 1 7 .int false := ⟨(RX1, TX1, 16), tyX1, rfl, tyX1_ok, nmX1, rfl, rfl⟩
theorem ft_1_8 : FT 1 8 .int false := ⟨(RX1, TX1, 16), tyX1, rfl, tyX1_ok, nmX1, rfl, rfl⟩
theorem ft_1_9 : FT 1 9 .int false := ⟨(RX1, TX1, 16), tyX1, rfl, tyX1_ok, nmX1, rfl, rfl⟩
theorem ft_1_10 : FT 1 10 .int false := ⟨(RX1, TX1, 16), tyX1, rfl, tyX1_ok, nmX1, rfl, rfl⟩
theorem ft_1_11 : FT 1 11 .int false := ⟨(RX1, TX1, 16), tyX1, rfl, tyX1_ok, nmX1, rfl, rfl⟩
theorem ft_1_12 : FT 1 12 .int false := ⟨(RX1, TX1, 16), tyX1, rfl, tyX1_ok, nmX1, rfl, rfl⟩
theorem ft_1_13 : FT 1 13 .int false := ⟨(RX1, TX1, 16), tyX1, rfl, tyX1_ok, nmX1, rfl, rfl⟩
theorem ft_1_14 : FT 1 14 .int false := ⟨(RX1, TX1, 16), tyX1, rfl, tyX1_ok, nmX1, rfl, rfl⟩
theorem ft_1_15 : FT 1 15 .int false := ⟨(RX1, TX1, 16), tyX1, rfl, tyX1_ok, nmX1, rfl, rfl⟩
theorem ft_2_0 : FT 2 0 (tyX2 0) true := ⟨(RX2, TX2, 2), tyX2, rfl, tyX2_ok, nmX2, rfl, rfl⟩
theorem ft_2_1 : FT 2 1 .int false := ⟨(RX2, TX2, 2), tyX2, rfl, tyX2_ok, nmX2, rfl, rfl⟩
theorem ft_3_0 : FT 3 0 .int false := ⟨(RX3, TX3, 11), tyX3, rfl, tyX3_ok, nmX3, rfl, rfl⟩
theorem ft_3_1 : FT 3 1 (tyX3 1) true := ⟨(RX3, TX3, 11), tyX3, rfl, tyX3_ok, nmX3, rfl, rfl⟩
theorem ft_3_2 : FT 3 2 (tyX3 2) true := ⟨(RX3, TX3, 11), tyX3, rfl, tyX3_ok, nmX3, rfl, rfl⟩
theorem ft_3_3 : FT 3 3 .int false := ⟨(RX3, TX3, 11), tyX3, rfl, tyX3_ok, nmX3, rfl, rfl⟩
theorem ft_3_4 : FT 3 4 (tyX3 4) true := ⟨(RX3, TX3, 11), tyX3, rfl, tyX3_ok, nmX3, rfl, rfl⟩
theorem ft_3_5 : FT 3 5 .int false := ⟨(RX3, TX3, 11), tyX3, rfl, tyX3_ok, nmX3, rfl, rfl⟩
theorem ft_3_6 : FT 3 6 (tyX3 6) true := ⟨(RX3, TX3, 11), tyX3, rfl, tyX3_ok, nmX3, rfl, rfl⟩
theorem ft_3_7 : FT 3 7 .int false := ⟨(RX3, TX3, 11), tyX3, rfl, tyX3_ok, nmX3, rfl, rfl⟩
theorem ft_3_8 : FT 3 8 .int false := ⟨(RX3, TX3, 11), tyX3, rfl, tyX3_ok, nmX3, rfl, rfl⟩
theorem ft_3_9 : FT 3 9 .int false := ⟨(RX3, TX3, 11), tyX3, rfl, tyX3_ok, nmX3, rfl, rfl⟩
theorem ft_3_10 : FT 3 10 .int false := ⟨(RX3, TX3, 11), tyX3, rfl, tyX3_ok, nmX3, rfl, rfl⟩
theorem ft_4_0 : FT 4 0 .int false := ⟨(RX4, TX4, 4), tyX4, rfl, tyX4_ok, nmX4, rfl, rfl⟩
theorem ft_4_1 : FT 4 1 .int false := ⟨(RX4, TX4, 4), tyX4, rfl, tyX4_ok, nmX4, rfl, rfl⟩
theorem ft_4_2 : FT 4 2 .int false := ⟨(RX4, TX4, 4), tyX4, rfl, tyX4_ok, nmX4, rfl, rfl⟩
theorem ft_4_3 : FT 4 3 .int false := ⟨(RX4, TX4, 4), tyX4, rfl, tyX4_ok, nmX4, rfl, rfl⟩
theorem ft_5_0 : FT 5 0 .int false := ⟨(RX5, TX5, 3), tyX5, rfl, tyX5_ok, nmX5, rfl, rfl⟩
theorem ft_5_1 : FT 5 1 .int false := ⟨(RX5, TX5, 3), tyX5, rfl, tyX5_ok, nmX5, rfl, rfl⟩
theorem ft_5_2 : FT 5 2 .int false := ⟨(RX5, TX5, 3), tyX5, rfl, tyX5_ok, nmX5, rfl, rfl⟩
theorem ft_6_0 : FT 6 0 (tyX6 0) true := ⟨(RX6, TX6, 6), tyX6, rfl, tyX6_ok, nmX6, rfl, rfl⟩
theorem ft_6_1 : FT 6 1 (tyX6 1) true := ⟨(RX6, TX6, 6), tyX6, rfl, tyX6_ok, nmX6, rfl, rfl⟩
theorem ft_6_2 : FT 6 2 (tyX6 2) true := ⟨(RX6, TX6, 6), tyX6, rfl, tyX6_ok, nmX6, rfl, rfl⟩
theorem ft_6_3 : FT 6 3 (tyX6 3) true := ⟨(RX6, TX6, 6), tyX6, rfl, tyX6_ok, nmX6, rfl, rfl⟩
theorem ft_6_4 : FT 6 4 (tyX6 4) true := ⟨(RX6, TX6, 6), tyX6, rfl, tyX6_ok, nmX6, rfl, rfl⟩
theorem ft_6_5 : FT 6 5 (tyX6 5) true := ⟨(RX6, TX6, 6), tyX6, rfl, tyX6_ok, nmX6, rfl, rfl⟩
theorem ft_7_0 : FT 7 0 (tyX7 0) true := ⟨(RX7, TX7, 13), tyX7, rfl, tyX7_ok, nmX7, rfl, rfl⟩
theorem ft_7_1 : FT 7 1 (tyX7 1) true := ⟨(RX7, TX7, 13), tyX7, rfl, tyX7_ok, nmX7, rfl, rfl⟩
theorem ft_7_2 : FT 7 2 (tyX7 2) true := ⟨(RX7, TX7, 13), tyX7, rfl, tyX7_ok, nmX7, rfl, rfl⟩
theorem ft_7_3 : FT 7 3 .int false := ⟨(RX7, TX7, 13), tyX7, rfl, tyX7_ok, nmX7, rfl, rfl⟩
theorem ft_7_4 : FT 7 4 (tyX7 4) true := ⟨(RX7, TX7, 13), tyX7, rfl, tyX7_ok, nmX7, rfl, rfl⟩
theorem ft_7_5 : FT 7 5 (tyX7 5) true := ⟨(RX7, TX7, 13), tyX7, rfl, tyX7_ok, nmX7, rfl, rfl⟩
theorem ft_7_6 : FT 7 6 (tyX7 6) true := ⟨(RX7, TX7, 13), tyX7, rfl, tyX7_ok, nmX7, rfl, rfl⟩
theorem ft_7_7 : FT 7 7 .int false := ⟨(RX7, TX7, 13), tyX7, rfl, tyX7_ok, nmX7, rfl, rfl⟩
theorem ft_7_8 : FT 7 8 .boolean false := ⟨(RX7, TX7, 13), tyX7, rfl, tyX7_ok, nmX7, rfl, rfl⟩
theorem ft_7_9 : FT 7 9 (tyX7 9) true := ⟨(RX7, TX7, 13), tyX7, rfl, tyX7_ok, nmX7, rfl, rfl⟩
theorem ft_7_10 : FT 7 10 .int false := ⟨(RX7, TX7, 13), tyX7, rfl, tyX7_ok, nmX7, rfl, rfl⟩
theorem ft_7_11 : FT 7 11 .int false := ⟨(RX7, TX7, 13), tyX7, rfl, tyX7_ok, nmX7, rfl, rfl⟩
theorem ft_7_12 : FT 7 12 .boolean false := ⟨(RX7, TX7, 13), tyX7, rfl, tyX7_ok, nmX7, rfl, rfl⟩
/-- a method that may be called: its code, what the tables say of it; n: how many arguments -/
def YC (y : MethodName) (cd : ByteArray) (mL : Nat) (rt : Option FieldType) (n : Nat) : Prop := Cond.code y cd mL rt ∈ TB ∧ Cond.initialized y.cls ∈ TB ∧ (y.cls ≠ "java/lang/invoke/MethodHandle" ∧ y.cls ≠ "java/lang/invoke/VarHandle" ∧ (parseMethodDescriptor y.desc).map (fun d => d.parameters.length) = some n)
theorem yc_X6_init : YC yX6_init cX6_init 2 none 0 := ⟨tb_in 41 (by decide +kernel) rfl, tb_in 28 (by decide +kernel) rfl, by decide +kernel, by decide +kernel, by decide +kernel⟩
theorem yi_X6_init : Cond.instanceMethod yX6_init ∈ TB := tb_in 40 (by decide +kernel) rfl
theorem yc_X3_init : YC yX3_init cX3_init 2 none 0 := ⟨tb_in 49 (by decide +kernel) rfl, tb_in 29 (by decide +kernel) rfl, by decide +kernel, by decide +kernel, by decide +kernel⟩
theorem yi_X3_init : Cond.instanceMethod yX3_init ∈ TB := tb_in 48 (by decide +kernel) rfl
theorem yc_X1_init : YC yX1_init cX1_init 1 none 0 := ⟨tb_in 65 (by decide +kernel) rfl, tb_in 30 (by decide +kernel) rfl, by decide +kernel, by decide +kernel, by decide +kernel⟩
theorem yi_X1_init : Cond.instanceMethod yX1_init ∈ TB := tb_in 64 (by decide +kernel) rfl
theorem yc_X5_init : YC yX5_init cX5_init 1 none 0 := ⟨tb_in 130 (by decide +kernel) rfl, tb_in 31 (by decide +kernel) rfl, by decide +kernel, by decide +kernel, by decide +kernel⟩
theorem yi_X5_init : Cond.instanceMethod yX5_init ∈ TB := tb_in 129 (by decide +kernel) rfl
theorem yc_X4_init : YC yX4_init cX4_init 1 none 0 := ⟨tb_in 150 (by decide +kernel) rfl, tb_in 32 (by decide +kernel) rfl, by decide +kernel, by decide +kernel, by decide +kernel⟩
theorem yi_X4_init : Cond.instanceMethod yX4_init ∈ TB := tb_in 149 (by decide +kernel) rfl
theorem yc_X0_init : YC yX0_init cX0_init 2 none 0 := ⟨tb_in 209 (by decide +kernel) rfl, tb_in 33 (by decide +kernel) rfl, by decide +kernel, by decide +kernel, by decide +kernel⟩
theorem yi_X0_init : Cond.instanceMethod yX0_init ∈ TB := tb_in 208 (by decide +kernel) rfl
theorem yc_X2_init : YC yX2_init cX2_init 1 none 0 := ⟨tb_in 229 (by decide +kernel) rfl, tb_in 34 (by decide +kernel) rfl, by decide +kernel, by decide +kernel, by decide +kernel⟩
theorem yi_X2_init : Cond.instanceMethod yX2_init ∈ TB := tb_in 228 (by decide +kernel) rfl
theorem yc_X6_set : YC yX6_set cX6_set 3 (some .int) 2 := ⟨tb_in 262 (by decide +kernel) rfl, tb_in 28 (by decide +kernel) rfl, by decide +kernel, by decide +kernel, by decide +kernel⟩
theorem yv_X6_set : Cond.instanceMethod yX6_set ∈ TB ∧ Cond.selects RX6 yX6_set yX6_set ∈ TB := ⟨tb_in 260 (by decide +kernel) rfl, tb_in 261 (by decide +kernel) rfl⟩
theorem yc_X0_prepare : YC yX0_prepare cX0_prepare 2 none 1 := ⟨tb_in 266 (by decide +kernel) rfl, tb_in 33 (by decide +kernel) rfl, by decide +kernel, by decide +kernel, by decide +kernel⟩
theorem yv_X0_prepare : Cond.instanceMethod yX0_prepare ∈ TB ∧ Cond.selects RX0 yX0_prepare yX0_prepare ∈ TB := ⟨tb_in 264 (by decide +kernel) rfl, tb_in 265 (by decide +kernel) rfl⟩
theorem yc_X3_copyFrom : YC yX3_copyFrom cX3_copyFrom 3 none 1 := ⟨tb_in 270 (by decide +kernel) rfl, tb_in 29 (by decide +kernel) rfl, by decide +kernel, by decide +kernel, by decide +kernel⟩
theorem yv_X3_copyFrom : Cond.instanceMethod yX3_copyFrom ∈ TB ∧ Cond.selects RX3 yX3_copyFrom yX3_copyFrom ∈ TB := ⟨tb_in 268 (by decide +kernel) rfl, tb_in 269 (by decide +kernel) rfl⟩
theorem yc_X1_copyFrom : YC yX1_copyFrom cX1_copyFrom 2 none 1 := ⟨tb_in 277 (by decide +kernel) rfl, tb_in 30 (by decide +kernel) rfl, by decide +kernel, by decide +kernel, by decide +kernel⟩
theorem yv_X1_copyFrom : Cond.instanceMethod yX1_copyFrom ∈ TB ∧ Cond.selects RX1 yX1_copyFrom yX1_copyFrom ∈ TB := ⟨tb_in 275 (by decide +kernel) rfl, tb_in 276 (by decide +kernel) rfl⟩
theorem yc_X5_copyFrom : YC yX5_copyFrom cX5_copyFrom 2 none 1 := ⟨tb_in 281 (by decide +kernel) rfl, tb_in 31 (by decide +kernel) rfl, by decide +kernel, by decide +kernel, by decide +kernel⟩
theorem yv_X5_copyFrom : Cond.instanceMethod yX5_copyFrom ∈ TB ∧ Cond.selects RX5 yX5_copyFrom yX5_copyFrom ∈ TB := ⟨tb_in 279 (by decide +kernel) rfl, tb_in 280 (by decide +kernel) rfl⟩
theorem yc_X4_copyFrom : YC yX4_copyFrom cX4_copyFrom 2 none 1 := ⟨tb_in 285 (by decide +kernel) rfl, tb_in 32 (by decide +kernel) rfl, by decide +kernel, by decide +kernel, by decide +kernel⟩
theorem yv_X4_copyFrom : Cond.instanceMethod yX4_copyFrom ∈ TB ∧ Cond.selects RX4 yX4_copyFrom yX4_copyFrom ∈ TB := ⟨tb_in 283 (by decide +kernel) rfl, tb_in 284 (by decide +kernel) rfl⟩
theorem yc_X3_changeSetting : YC yX3_changeSetting cX3_changeSetting 4 (some .int) 2 := ⟨tb_in 289 (by decide +kernel) rfl, tb_in 29 (by decide +kernel) rfl, by decide +kernel, by decide +kernel, by decide +kernel⟩
theorem yv_X3_changeSetting : Cond.instanceMethod yX3_changeSetting ∈ TB ∧ Cond.selects RX3 yX3_changeSetting yX3_changeSetting ∈ TB := ⟨tb_in 287 (by decide +kernel) rfl, tb_in 288 (by decide +kernel) rfl⟩
theorem yc_X6_within : YC yX6_within cX6_within 3 (some .boolean) 3 := ⟨tb_in 292 (by decide +kernel) rfl, tb_in 28 (by decide +kernel) rfl, by decide +kernel, by decide +kernel, by decide +kernel⟩
theorem ys_X6_within : Cond.static yX6_within ∈ TB := tb_in 291 (by decide +kernel) rfl
theorem yc_X0_recordUnlessError : YC yX0_recordUnlessError cX0_recordUnlessError 2 (some .int) 1 := ⟨tb_in 300 (by decide +kernel) rfl, tb_in 33 (by decide +kernel) rfl, by decide +kernel, by decide +kernel, by decide +kernel⟩
theorem yv_X0_recordUnlessError : Cond.instanceMethod yX0_recordUnlessError ∈ TB ∧ Cond.selects RX0 yX0_recordUnlessError yX0_recordUnlessError ∈ TB := ⟨tb_in 298 (by decide +kernel) rfl, tb_in 299 (by decide +kernel) rfl⟩
theorem yc_X6_line : YC yX6_line cX6_line 5 (some .int) 4 := ⟨tb_in 304 (by decide +kernel) rfl, tb_in 28 (by decide +kernel) rfl, by decide +kernel, by decide +kernel, by decide +kernel⟩
theorem yv_X6_line : Cond.instanceMethod yX6_line ∈ TB ∧ Cond.selects RX6 yX6_line yX6_line ∈ TB := ⟨tb_in 302 (by decide +kernel) rfl, tb_in 303 (by decide +kernel) rfl⟩
theorem yc_X3_addLine : YC yX3_addLine cX3_addLine 5 (some .int) 4 := ⟨tb_in 308 (by decide +kernel) rfl, tb_in 29 (by decide +kernel) rfl, by decide +kernel, by decide +kernel, by decide +kernel⟩
theorem yv_X3_addLine : Cond.instanceMethod yX3_addLine ∈ TB ∧ Cond.selects RX3 yX3_addLine yX3_addLine ∈ TB := ⟨tb_in 306 (by decide +kernel) rfl, tb_in 307 (by decide +kernel) rfl⟩
theorem yc_X3_isShape : YC yX3_isShape cX3_isShape 3 (some .boolean) 3 := ⟨tb_in 311 (by decide +kernel) rfl, tb_in 29 (by decide +kernel) rfl, by decide +kernel, by decide +kernel, by decide +kernel⟩
theorem ys_X3_isShape : Cond.static yX3_isShape ∈ TB := tb_in 310 (by decide +kernel) rfl
theorem yc_X1_becomeNew : YC yX1_becomeNew cX1_becomeNew 2 none 1 := ⟨tb_in 315 (by decide +kernel) rfl, tb_in 30 (by decide +kernel) rfl, by decide +kernel, by decide +kernel, by decide +kernel⟩
theorem yv_X1_becomeNew : Cond.instanceMethod yX1_becomeNew ∈ TB ∧ Cond.selects RX1 yX1_becomeNew yX1_becomeNew ∈ TB := ⟨tb_in 313 (by decide +kernel) rfl, tb_in 314 (by decide +kernel) rfl⟩
theorem yc_X1_shape : YC yX1_shape cX1_shape 4 none 3 := ⟨tb_in 319 (by decide +kernel) rfl, tb_in 30 (by decide +kernel) rfl, by decide +kernel, by decide +kernel, by decide +kernel⟩
theorem yv_X1_shape : Cond.instanceMethod yX1_shape ∈ TB ∧ Cond.selects RX1 yX1_shape yX1_shape ∈ TB := ⟨tb_in 317 (by decide +kernel) rfl, tb_in 318 (by decide +kernel) rfl⟩
theorem yc_X6_timer : YC yX6_timer cX6_timer 4 (some .int) 3 := ⟨tb_in 323 (by decide +kernel) rfl, tb_in 28 (by decide +kernel) rfl, by decide +kernel, by decide +kernel, by decide +kernel⟩
theorem yv_X6_timer : Cond.instanceMethod yX6_timer ∈ TB ∧ Cond.selects RX6 yX6_timer yX6_timer ∈ TB := ⟨tb_in 321 (by decide +kernel) rfl, tb_in 322 (by decide +kernel) rfl⟩
theorem yc_X3_addTimer : YC yX3_addTimer cX3_addTimer 5 (some .int) 3 := ⟨tb_in 327 (by decide +kernel) rfl, tb_in 29 (by decide +kernel) rfl, by decide +kernel, by decide +kernel, by decide +kernel⟩
theorem yv_X3_addTimer : Cond.instanceMethod yX3_addTimer ∈ TB ∧ Cond.selects RX3 yX3_addTimer yX3_addTimer ∈ TB := ⟨tb_in 325 (by decide +kernel) rfl, tb_in 326 (by decide +kernel) rfl⟩
theorem yc_X3_hasLine : YC yX3_hasLine cX3_hasLine 2 (some .boolean) 1 := ⟨tb_in 331 (by decide +kernel) rfl, tb_in 29 (by decide +kernel) rfl, by decide +kernel, by decide +kernel, by decide +kernel⟩
theorem yv_X3_hasLine : Cond.instanceMethod yX3_hasLine ∈ TB ∧ Cond.selects RX3 yX3_hasLine yX3_hasLine ∈ TB := ⟨tb_in 329 (by decide +kernel) rfl, tb_in 330 (by decide +kernel) rfl⟩
theorem yc_X6_stop : YC yX6_stop cX6_stop 2 (some .int) 1 := ⟨tb_in 335 (by decide +kernel) rfl, tb_in 28 (by decide +kernel) rfl, by decide +kernel, by decide +kernel, by decide +kernel⟩
theorem yv_X6_stop : Cond.instanceMethod yX6_stop ∈ TB ∧ Cond.selects RX6 yX6_stop yX6_stop ∈ TB := ⟨tb_in 333 (by decide +kernel) rfl, tb_in 334 (by decide +kernel) rfl⟩
theorem yc_X3_removeTimer : YC yX3_removeTimer cX3_removeTimer 3 (some .int) 1 := ⟨tb_in 339 (by decide +kernel) rfl, tb_in 29 (by decide +kernel) rfl, by decide +kernel, by decide +kernel, by decide +kernel⟩
theorem yv_X3_removeTimer : Cond.instanceMethod yX3_removeTimer ∈ TB ∧ Cond.selects RX3 yX3_removeTimer yX3_removeTimer ∈ TB := ⟨tb_in 337 (by decide +kernel) rfl, tb_in 338 (by decide +kernel) rfl⟩
theorem yc_X3_hasTimer : YC yX3_hasTimer cX3_hasTimer 2 (some .boolean) 1 := ⟨tb_in 343 (by decide +kernel) rfl, tb_in 29 (by decide +kernel) rfl, by decide +kernel, by decide +kernel, by decide +kernel⟩
theorem yv_X3_hasTimer : Cond.instanceMethod yX3_hasTimer ∈ TB ∧ Cond.selects RX3 yX3_hasTimer yX3_hasTimer ∈ TB := ⟨tb_in 341 (by decide +kernel) rfl, tb_in 342 (by decide +kernel) rfl⟩
theorem yc_X6_raise : YC yX6_raise cX6_raise 2 (some .int) 1 := ⟨tb_in 347 (by decide +kernel) rfl, tb_in 28 (by decide +kernel) rfl, by decide +kernel, by decide +kernel, by decide +kernel⟩
theorem yv_X6_raise : Cond.instanceMethod yX6_raise ∈ TB ∧ Cond.selects RX6 yX6_raise yX6_raise ∈ TB := ⟨tb_in 345 (by decide +kernel) rfl, tb_in 346 (by decide +kernel) rfl⟩
theorem yc_X3_raiseLine : YC yX3_raiseLine cX3_raiseLine 2 (some .int) 1 := ⟨tb_in 351 (by decide +kernel) rfl, tb_in 29 (by decide +kernel) rfl, by decide +kernel, by decide +kernel, by decide +kernel⟩
theorem yv_X3_raiseLine : Cond.instanceMethod yX3_raiseLine ∈ TB ∧ Cond.selects RX3 yX3_raiseLine yX3_raiseLine ∈ TB := ⟨tb_in 349 (by decide +kernel) rfl, tb_in 350 (by decide +kernel) rfl⟩
theorem yc_X1_takeEdge : YC yX1_takeEdge cX1_takeEdge 2 (some .boolean) 1 := ⟨tb_in 355 (by decide +kernel) rfl, tb_in 30 (by decide +kernel) rfl, by decide +kernel, by decide +kernel, by decide +kernel⟩
theorem yv_X1_takeEdge : Cond.instanceMethod yX1_takeEdge ∈ TB ∧ Cond.selects RX1 yX1_takeEdge yX1_takeEdge ∈ TB := ⟨tb_in 353 (by decide +kernel) rfl, tb_in 354 (by decide +kernel) rfl⟩
theorem yc_X6_hold : YC yX6_hold cX6_hold 4 (some .int) 3 := ⟨tb_in 359 (by decide +kernel) rfl, tb_in 28 (by decide +kernel) rfl, by decide +kernel, by decide +kernel, by decide +kernel⟩
theorem yv_X6_hold : Cond.instanceMethod yX6_hold ∈ TB ∧ Cond.selects RX6 yX6_hold yX6_hold ∈ TB := ⟨tb_in 357 (by decide +kernel) rfl, tb_in 358 (by decide +kernel) rfl⟩
theorem yc_X3_holdLine : YC yX3_holdLine cX3_holdLine 4 (some .int) 3 := ⟨tb_in 363 (by decide +kernel) rfl, tb_in 29 (by decide +kernel) rfl, by decide +kernel, by decide +kernel, by decide +kernel⟩
theorem yv_X3_holdLine : Cond.instanceMethod yX3_holdLine ∈ TB ∧ Cond.selects RX3 yX3_holdLine yX3_holdLine ∈ TB := ⟨tb_in 361 (by decide +kernel) rfl, tb_in 362 (by decide +kernel) rfl⟩
theorem yc_X1_moveDevice : YC yX1_moveDevice cX1_moveDevice 4 none 2 := ⟨tb_in 367 (by decide +kernel) rfl, tb_in 30 (by decide +kernel) rfl, by decide +kernel, by decide +kernel, by decide +kernel⟩
theorem yv_X1_moveDevice : Cond.instanceMethod yX1_moveDevice ∈ TB ∧ Cond.selects RX1 yX1_moveDevice yX1_moveDevice ∈ TB := ⟨tb_in 365 (by decide +kernel) rfl, tb_in 366 (by decide +kernel) rfl⟩
theorem yc_X1_followDevices : YC yX1_followDevices cX1_followDevices 2 none 0 := ⟨tb_in 371 (by decide +kernel) rfl, tb_in 30 (by decide +kernel) rfl, by decide +kernel, by decide +kernel, by decide +kernel⟩
theorem yv_X1_followDevices : Cond.instanceMethod yX1_followDevices ∈ TB ∧ Cond.selects RX1 yX1_followDevices yX1_followDevices ∈ TB := ⟨tb_in 369 (by decide +kernel) rfl, tb_in 370 (by decide +kernel) rfl⟩
theorem yc_X6_mask : YC yX6_mask cX6_mask 3 (some .int) 2 := ⟨tb_in 375 (by decide +kernel) rfl, tb_in 28 (by decide +kernel) rfl, by decide +kernel, by decide +kernel, by decide +kernel⟩
theorem yv_X6_mask : Cond.instanceMethod yX6_mask ∈ TB ∧ Cond.selects RX6 yX6_mask yX6_mask ∈ TB := ⟨tb_in 373 (by decide +kernel) rfl, tb_in 374 (by decide +kernel) rfl⟩
theorem yc_X3_maskLine : YC yX3_maskLine cX3_maskLine 4 (some .int) 2 := ⟨tb_in 379 (by decide +kernel) rfl, tb_in 29 (by decide +kernel) rfl, by decide +kernel, by decide +kernel, by decide +kernel⟩
theorem yv_X3_maskLine : Cond.instanceMethod yX3_maskLine ∈ TB ∧ Cond.selects RX3 yX3_maskLine yX3_maskLine ∈ TB := ⟨tb_in 377 (by decide +kernel) rfl, tb_in 378 (by decide +kernel) rfl⟩
theorem yc_X6_change : YC yX6_change cX6_change 5 (some .int) 4 := ⟨tb_in 383 (by decide +kernel) rfl, tb_in 28 (by decide +kernel) rfl, by decide +kernel, by decide +kernel, by decide +kernel⟩
theorem yv_X6_change : Cond.instanceMethod yX6_change ∈ TB ∧ Cond.selects RX6 yX6_change yX6_change ∈ TB := ⟨tb_in 381 (by decide +kernel) rfl, tb_in 382 (by decide +kernel) rfl⟩
theorem yc_X3_changeLine : YC yX3_changeLine cX3_changeLine 6 (some .int) 4 := ⟨tb_in 387 (by decide +kernel) rfl, tb_in 29 (by decide +kernel) rfl, by decide +kernel, by decide +kernel, by decide +kernel⟩
theorem yv_X3_changeLine : Cond.instanceMethod yX3_changeLine ∈ TB ∧ Cond.selects RX3 yX3_changeLine yX3_changeLine ∈ TB := ⟨tb_in 385 (by decide +kernel) rfl, tb_in 386 (by decide +kernel) rfl⟩
theorem yc_X6_ticks : YC yX6_ticks cX6_ticks 2 (some .int) 1 := ⟨tb_in 391 (by decide +kernel) rfl, tb_in 28 (by decide +kernel) rfl, by decide +kernel, by decide +kernel, by decide +kernel⟩
theorem yv_X6_ticks : Cond.instanceMethod yX6_ticks ∈ TB ∧ Cond.selects RX6 yX6_ticks yX6_ticks ∈ TB := ⟨tb_in 389 (by decide +kernel) rfl, tb_in 390 (by decide +kernel) rfl⟩
theorem yc_X3_passTicks : YC yX3_passTicks cX3_passTicks 3 (some .int) 1 := ⟨tb_in 395 (by decide +kernel) rfl, tb_in 29 (by decide +kernel) rfl, by decide +kernel, by decide +kernel, by decide +kernel⟩
theorem yv_X3_passTicks : Cond.instanceMethod yX3_passTicks ∈ TB ∧ Cond.selects RX3 yX3_passTicks yX3_passTicks ∈ TB := ⟨tb_in 393 (by decide +kernel) rfl, tb_in 394 (by decide +kernel) rfl⟩
theorem yc_X3_passTick : YC yX3_passTick cX3_passTick 2 (some .int) 0 := ⟨tb_in 399 (by decide +kernel) rfl, tb_in 29 (by decide +kernel) rfl, by decide +kernel, by decide +kernel, by decide +kernel⟩
theorem yv_X3_passTick : Cond.instanceMethod yX3_passTick ∈ TB ∧ Cond.selects RX3 yX3_passTick yX3_passTick ∈ TB := ⟨tb_in 397 (by decide +kernel) rfl, tb_in 398 (by decide +kernel) rfl⟩
theorem yc_X3_raiseByTimers : YC yX3_raiseByTimers cX3_raiseByTimers 3 none 0 := ⟨tb_in 403 (by decide +kernel) rfl, tb_in 29 (by decide +kernel) rfl, by decide +kernel, by decide +kernel, by decide +kernel⟩
theorem yv_X3_raiseByTimers : Cond.instanceMethod yX3_raiseByTimers ∈ TB ∧ Cond.selects RX3 yX3_raiseByTimers yX3_raiseByTimers ∈ TB := ⟨tb_in 401 (by decide +kernel) rfl, tb_in 402 (by decide +kernel) rfl⟩
theorem yc_X3_beginFoundLine : YC yX3_beginFoundLine cX3_beginFoundLine 5 (some .int) 0 := ⟨tb_in 407 (by decide +kernel) rfl, tb_in 29 (by decide +kernel) rfl, by decide +kernel, by decide +kernel, by decide +kernel⟩
theorem yv_X3_beginFoundLine : Cond.instanceMethod yX3_beginFoundLine ∈ TB ∧ Cond.selects RX3 yX3_beginFoundLine yX3_beginFoundLine ∈ TB := ⟨tb_in 405 (by decide +kernel) rfl, tb_in 406 (by decide +kernel) rfl⟩
theorem yc_X3_foundLine : YC yX3_foundLine cX3_foundLine 6 (some .int) 0 := ⟨tb_in 411 (by decide +kernel) rfl, tb_in 29 (by decide +kernel) rfl, by decide +kernel, by decide +kernel, by decide +kernel⟩
theorem yv_X3_foundLine : Cond.instanceMethod yX3_foundLine ∈ TB ∧ Cond.selects RX3 yX3_foundLine yX3_foundLine ∈ TB := ⟨tb_in 409 (by decide +kernel) rfl, tb_in 410 (by decide +kernel) rfl⟩
theorem yc_X1_mayBegin : YC yX1_mayBegin cX1_mayBegin 1 (some .boolean) 0 := ⟨tb_in 415 (by decide +kernel) rfl, tb_in 30 (by decide +kernel) rfl, by decide +kernel, by decide +kernel, by decide +kernel⟩
theorem yv_X1_mayBegin : Cond.instanceMethod yX1_mayBegin ∈ TB ∧ Cond.selects RX1 yX1_mayBegin yX1_mayBegin ∈ TB := ⟨tb_in 413 (by decide +kernel) rfl, tb_in 414 (by decide +kernel) rfl⟩
theorem yc_X1_presentRank : YC yX1_presentRank cX1_presentRank 4 (some .int) 2 := ⟨tb_in 419 (by decide +kernel) rfl, tb_in 30 (by decide +kernel) rfl, by decide +kernel, by decide +kernel, by decide +kernel⟩
theorem yv_X1_presentRank : Cond.instanceMethod yX1_presentRank ∈ TB ∧ Cond.selects RX1 yX1_presentRank yX1_presentRank ∈ TB := ⟨tb_in 417 (by decide +kernel) rfl, tb_in 418 (by decide +kernel) rfl⟩
theorem yc_X3_nestTakes : YC yX3_nestTakes cX3_nestTakes 3 (some .boolean) 1 := ⟨tb_in 423 (by decide +kernel) rfl, tb_in 29 (by decide +kernel) rfl, by decide +kernel, by decide +kernel, by decide +kernel⟩
theorem yv_X3_nestTakes : Cond.instanceMethod yX3_nestTakes ∈ TB ∧ Cond.selects RX3 yX3_nestTakes yX3_nestTakes ∈ TB := ⟨tb_in 421 (by decide +kernel) rfl, tb_in 422 (by decide +kernel) rfl⟩
theorem yc_X3_costOf : YC yX3_costOf cX3_costOf 2 (some .int) 1 := ⟨tb_in 427 (by decide +kernel) rfl, tb_in 29 (by decide +kernel) rfl, by decide +kernel, by decide +kernel, by decide +kernel⟩
theorem yv_X3_costOf : Cond.instanceMethod yX3_costOf ∈ TB ∧ Cond.selects RX3 yX3_costOf yX3_costOf ∈ TB := ⟨tb_in 425 (by decide +kernel) rfl, tb_in 426 (by decide +kernel) rfl⟩
theorem yc_X1_enterNest : YC yX1_enterNest cX1_enterNest 2 none 1 := ⟨tb_in 431 (by decide +kernel) rfl, tb_in 30 (by decide +kernel) rfl, by decide +kernel, by decide +kernel, by decide +kernel⟩
theorem yv_X1_enterNest : Cond.instanceMethod yX1_enterNest ∈ TB ∧ Cond.selects RX1 yX1_enterNest yX1_enterNest ∈ TB := ⟨tb_in 429 (by decide +kernel) rfl, tb_in 430 (by decide +kernel) rfl⟩
theorem yc_X3_serveTop : YC yX3_serveTop cX3_serveTop 2 none 0 := ⟨tb_in 435 (by decide +kernel) rfl, tb_in 29 (by decide +kernel) rfl, by decide +kernel, by decide +kernel, by decide +kernel⟩
theorem yv_X3_serveTop : Cond.instanceMethod yX3_serveTop ∈ TB ∧ Cond.selects RX3 yX3_serveTop yX3_serveTop ∈ TB := ⟨tb_in 433 (by decide +kernel) rfl, tb_in 434 (by decide +kernel) rfl⟩
theorem yc_X1_leaveNest : YC yX1_leaveNest cX1_leaveNest 1 none 0 := ⟨tb_in 439 (by decide +kernel) rfl, tb_in 30 (by decide +kernel) rfl, by decide +kernel, by decide +kernel, by decide +kernel⟩
theorem yv_X1_leaveNest : Cond.instanceMethod yX1_leaveNest ∈ TB ∧ Cond.selects RX1 yX1_leaveNest yX1_leaveNest ∈ TB := ⟨tb_in 437 (by decide +kernel) rfl, tb_in 438 (by decide +kernel) rfl⟩
theorem yc_X3_growWaits : YC yX3_growWaits cX3_growWaits 2 none 0 := ⟨tb_in 443 (by decide +kernel) rfl, tb_in 29 (by decide +kernel) rfl, by decide +kernel, by decide +kernel, by decide +kernel⟩
theorem yv_X3_growWaits : Cond.instanceMethod yX3_growWaits ∈ TB ∧ Cond.selects RX3 yX3_growWaits yX3_growWaits ∈ TB := ⟨tb_in 441 (by decide +kernel) rfl, tb_in 442 (by decide +kernel) rfl⟩
theorem yc_X6_ofLine : YC yX6_ofLine cX6_ofLine 3 (some .int) 2 := ⟨tb_in 447 (by decide +kernel) rfl, tb_in 28 (by decide +kernel) rfl, by decide +kernel, by decide +kernel, by decide +kernel⟩
theorem yv_X6_ofLine : Cond.instanceMethod yX6_ofLine ∈ TB ∧ Cond.selects RX6 yX6_ofLine yX6_ofLine ∈ TB := ⟨tb_in 445 (by decide +kernel) rfl, tb_in 446 (by decide +kernel) rfl⟩
theorem yc_X3_numberOfLine : YC yX3_numberOfLine cX3_numberOfLine 3 (some .int) 2 := ⟨tb_in 451 (by decide +kernel) rfl, tb_in 29 (by decide +kernel) rfl, by decide +kernel, by decide +kernel, by decide +kernel⟩
theorem yv_X3_numberOfLine : Cond.instanceMethod yX3_numberOfLine ∈ TB ∧ Cond.selects RX3 yX3_numberOfLine yX3_numberOfLine ∈ TB := ⟨tb_in 449 (by decide +kernel) rfl, tb_in 450 (by decide +kernel) rfl⟩
theorem yc_X1_number : YC yX1_number cX1_number 4 (some .int) 3 := ⟨tb_in 455 (by decide +kernel) rfl, tb_in 30 (by decide +kernel) rfl, by decide +kernel, by decide +kernel, by decide +kernel⟩
theorem yv_X1_number : Cond.instanceMethod yX1_number ∈ TB ∧ Cond.selects RX1 yX1_number yX1_number ∈ TB := ⟨tb_in 453 (by decide +kernel) rfl, tb_in 454 (by decide +kernel) rfl⟩
theorem yc_X6_ofNest : YC yX6_ofNest cX6_ofNest 3 (some .int) 2 := ⟨tb_in 460 (by decide +kernel) rfl, tb_in 28 (by decide +kernel) rfl, by decide +kernel, by decide +kernel, by decide +kernel⟩
theorem yv_X6_ofNest : Cond.instanceMethod yX6_ofNest ∈ TB ∧ Cond.selects RX6 yX6_ofNest yX6_ofNest ∈ TB := ⟨tb_in 458 (by decide +kernel) rfl, tb_in 459 (by decide +kernel) rfl⟩
theorem yc_X3_numberOfPlace : YC yX3_numberOfPlace cX3_numberOfPlace 3 (some .int) 2 := ⟨tb_in 464 (by decide +kernel) rfl, tb_in 29 (by decide +kernel) rfl, by decide +kernel, by decide +kernel, by decide +kernel⟩
theorem yv_X3_numberOfPlace : Cond.instanceMethod yX3_numberOfPlace ∈ TB ∧ Cond.selects RX3 yX3_numberOfPlace yX3_numberOfPlace ∈ TB := ⟨tb_in 462 (by decide +kernel) rfl, tb_in 463 (by decide +kernel) rfl⟩
theorem yc_X4_number : YC yX4_number cX4_number 2 (some .int) 1 := ⟨tb_in 468 (by decide +kernel) rfl, tb_in 32 (by decide +kernel) rfl, by decide +kernel, by decide +kernel, by decide +kernel⟩
theorem yv_X4_number : Cond.instanceMethod yX4_number ∈ TB ∧ Cond.selects RX4 yX4_number yX4_number ∈ TB := ⟨tb_in 466 (by decide +kernel) rfl, tb_in 467 (by decide +kernel) rfl⟩
theorem yc_X6_ofTimer : YC yX6_ofTimer cX6_ofTimer 3 (some .int) 2 := ⟨tb_in 472 (by decide +kernel) rfl, tb_in 28 (by decide +kernel) rfl, by decide +kernel, by decide +kernel, by decide +kernel⟩
theorem yv_X6_ofTimer : Cond.instanceMethod yX6_ofTimer ∈ TB ∧ Cond.selects RX6 yX6_ofTimer yX6_ofTimer ∈ TB := ⟨tb_in 470 (by decide +kernel) rfl, tb_in 471 (by decide +kernel) rfl⟩
theorem yc_X3_numberOfTimer : YC yX3_numberOfTimer cX3_numberOfTimer 3 (some .int) 2 := ⟨tb_in 476 (by decide +kernel) rfl, tb_in 29 (by decide +kernel) rfl, by decide +kernel, by decide +kernel, by decide +kernel⟩
theorem yv_X3_numberOfTimer : Cond.instanceMethod yX3_numberOfTimer ∈ TB ∧ Cond.selects RX3 yX3_numberOfTimer yX3_numberOfTimer ∈ TB := ⟨tb_in 474 (by decide +kernel) rfl, tb_in 475 (by decide +kernel) rfl⟩
theorem yc_X5_number : YC yX5_number cX5_number 2 (some .int) 1 := ⟨tb_in 480 (by decide +kernel) rfl, tb_in 31 (by decide +kernel) rfl, by decide +kernel, by decide +kernel, by decide +kernel⟩
theorem yv_X5_number : Cond.instanceMethod yX5_number ∈ TB ∧ Cond.selects RX5 yX5_number yX5_number ∈ TB := ⟨tb_in 478 (by decide +kernel) rfl, tb_in 479 (by decide +kernel) rfl⟩
theorem yc_X6_count : YC yX6_count cX6_count 2 (some .int) 1 := ⟨tb_in 484 (by decide +kernel) rfl, tb_in 28 (by decide +kernel) rfl, by decide +kernel, by decide +kernel, by decide +kernel⟩
theorem yv_X6_count : Cond.instanceMethod yX6_count ∈ TB ∧ Cond.selects RX6 yX6_count yX6_count ∈ TB := ⟨tb_in 482 (by decide +kernel) rfl, tb_in 483 (by decide +kernel) rfl⟩
theorem yc_X3_numberOfAll : YC yX3_numberOfAll cX3_numberOfAll 3 (some .int) 1 := ⟨tb_in 488 (by decide +kernel) rfl, tb_in 29 (by decide +kernel) rfl, by decide +kernel, by decide +kernel, by decide +kernel⟩
theorem yv_X3_numberOfAll : Cond.instanceMethod yX3_numberOfAll ∈ TB ∧ Cond.selects RX3 yX3_numberOfAll yX3_numberOfAll ∈ TB := ⟨tb_in 486 (by decide +kernel) rfl, tb_in 487 (by decide +kernel) rfl⟩
theorem yc_X3_waitingLines : YC yX3_waitingLines cX3_waitingLines 3 (some .int) 0 := ⟨tb_in 492 (by decide +kernel) rfl, tb_in 29 (by decide +kernel) rfl, by decide +kernel, by decide +kernel, by decide +kernel⟩
theorem yv_X3_waitingLines : Cond.instanceMethod yX3_waitingLines ∈ TB ∧ Cond.selects RX3 yX3_waitingLines yX3_waitingLines ∈ TB := ⟨tb_in 490 (by decide +kernel) rfl, tb_in 491 (by decide +kernel) rfl⟩
theorem yc_X3_missesOfAll : YC yX3_missesOfAll cX3_missesOfAll 3 (some .int) 0 := ⟨tb_in 496 (by decide +kernel) rfl, tb_in 29 (by decide +kernel) rfl, by decide +kernel, by decide +kernel, by decide +kernel⟩
theorem yv_X3_missesOfAll : Cond.instanceMethod yX3_missesOfAll ∈ TB ∧ Cond.selects RX3 yX3_missesOfAll yX3_missesOfAll ∈ TB := ⟨tb_in 494 (by decide +kernel) rfl, tb_in 495 (by decide +kernel) rfl⟩
theorem yc_X6_beginsIn : YC yX6_beginsIn cX6_beginsIn 2 (some .int) 1 := ⟨tb_in 500 (by decide +kernel) rfl, tb_in 28 (by decide +kernel) rfl, by decide +kernel, by decide +kernel, by decide +kernel⟩
theorem yv_X6_beginsIn : Cond.instanceMethod yX6_beginsIn ∈ TB ∧ Cond.selects RX6 yX6_beginsIn yX6_beginsIn ∈ TB := ⟨tb_in 498 (by decide +kernel) rfl, tb_in 499 (by decide +kernel) rfl⟩
theorem yc_X3_ticksUntilBegin : YC yX3_ticksUntilBegin cX3_ticksUntilBegin 4 (some .int) 2 := ⟨tb_in 506 (by decide +kernel) rfl, tb_in 29 (by decide +kernel) rfl, by decide +kernel, by decide +kernel, by decide +kernel⟩
theorem yv_X3_ticksUntilBegin : Cond.instanceMethod yX3_ticksUntilBegin ∈ TB ∧ Cond.selects RX3 yX3_ticksUntilBegin yX3_ticksUntilBegin ∈ TB := ⟨tb_in 504 (by decide +kernel) rfl, tb_in 505 (by decide +kernel) rfl⟩
theorem yc_X6_idleIn : YC yX6_idleIn cX6_idleIn 1 (some .int) 0 := ⟨tb_in 510 (by decide +kernel) rfl, tb_in 28 (by decide +kernel) rfl, by decide +kernel, by decide +kernel, by decide +kernel⟩
theorem yv_X6_idleIn : Cond.instanceMethod yX6_idleIn ∈ TB ∧ Cond.selects RX6 yX6_idleIn yX6_idleIn ∈ TB := ⟨tb_in 508 (by decide +kernel) rfl, tb_in 509 (by decide +kernel) rfl⟩
theorem yc_X3_ticksUntilIdle : YC yX3_ticksUntilIdle cX3_ticksUntilIdle 3 (some .int) 1 := ⟨tb_in 514 (by decide +kernel) rfl, tb_in 29 (by decide +kernel) rfl, by decide +kernel, by decide +kernel, by decide +kernel⟩
theorem yv_X3_ticksUntilIdle : Cond.instanceMethod yX3_ticksUntilIdle ∈ TB ∧ Cond.selects RX3 yX3_ticksUntilIdle yX3_ticksUntilIdle ∈ TB := ⟨tb_in 512 (by decide +kernel) rfl, tb_in 513 (by decide +kernel) rfl⟩
theorem yc_X6_missesIn : YC yX6_missesIn cX6_missesIn 2 (some .int) 1 := ⟨tb_in 518 (by decide +kernel) rfl, tb_in 28 (by decide +kernel) rfl, by decide +kernel, by decide +kernel, by decide +kernel⟩
theorem yv_X6_missesIn : Cond.instanceMethod yX6_missesIn ∈ TB ∧ Cond.selects RX6 yX6_missesIn yX6_missesIn ∈ TB := ⟨tb_in 516 (by decide +kernel) rfl, tb_in 517 (by decide +kernel) rfl⟩
theorem yc_X6_greatestBar : YC yX6_greatestBar cX6_greatestBar 4 (some .int) 2 := ⟨tb_in 524 (by decide +kernel) rfl, tb_in 28 (by decide +kernel) rfl, by decide +kernel, by decide +kernel, by decide +kernel⟩
theorem yv_X6_greatestBar : Cond.instanceMethod yX6_greatestBar ∈ TB ∧ Cond.selects RX6 yX6_greatestBar yX6_greatestBar ∈ TB := ⟨tb_in 522 (by decide +kernel) rfl, tb_in 523 (by decide +kernel) rfl⟩
theorem yc_X6_bound : YC yX6_bound cX6_bound 2 (some .int) 1 := ⟨tb_in 530 (by decide +kernel) rfl, tb_in 28 (by decide +kernel) rfl, by decide +kernel, by decide +kernel, by decide +kernel⟩
theorem yv_X6_bound : Cond.instanceMethod yX6_bound ∈ TB ∧ Cond.selects RX6 yX6_bound yX6_bound ∈ TB := ⟨tb_in 528 (by decide +kernel) rfl, tb_in 529 (by decide +kernel) rfl⟩
theorem yc_X3_leastBound : YC yX3_leastBound cX3_leastBound 4 (some .int) 1 := ⟨tb_in 534 (by decide +kernel) rfl, tb_in 29 (by decide +kernel) rfl, by decide +kernel, by decide +kernel, by decide +kernel⟩
theorem yv_X3_leastBound : Cond.instanceMethod yX3_leastBound ∈ TB ∧ Cond.selects RX3 yX3_leastBound yX3_leastBound ∈ TB := ⟨tb_in 532 (by decide +kernel) rfl, tb_in 533 (by decide +kernel) rfl⟩
theorem yc_X3_greatestCostBelow : YC yX3_greatestCostBelow cX3_greatestCostBelow 4 (some .int) 1 := ⟨tb_in 538 (by decide +kernel) rfl, tb_in 29 (by decide +kernel) rfl, by decide +kernel, by decide +kernel, by decide +kernel⟩
theorem yv_X3_greatestCostBelow : Cond.instanceMethod yX3_greatestCostBelow ∈ TB ∧ Cond.selects RX3 yX3_greatestCostBelow yX3_greatestCostBelow ∈ TB := ⟨tb_in 536 (by decide +kernel) rfl, tb_in 537 (by decide +kernel) rfl⟩
theorem yc_X3_costOfRivals : YC yX3_costOfRivals cX3_costOfRivals 6 (some .int) 2 := ⟨tb_in 542 (by decide +kernel) rfl, tb_in 29 (by decide +kernel) rfl, by decide +kernel, by decide +kernel, by decide +kernel⟩
theorem yv_X3_costOfRivals : Cond.instanceMethod yX3_costOfRivals ∈ TB ∧ Cond.selects RX3 yX3_costOfRivals yX3_costOfRivals ∈ TB := ⟨tb_in 540 (by decide +kernel) rfl, tb_in 541 (by decide +kernel) rfl⟩
theorem yc_X6_dividedUp : YC yX6_dividedUp cX6_dividedUp 4 (some .long) 2 := ⟨tb_in 545 (by decide +kernel) rfl, tb_in 28 (by decide +kernel) rfl, by decide +kernel, by decide +kernel, by decide +kernel⟩
theorem ys_X6_dividedUp : Cond.static yX6_dividedUp ∈ TB := tb_in 544 (by decide +kernel) rfl
theorem yc_X6_load : YC yX6_load cX6_load 1 (some .int) 0 := ⟨tb_in 549 (by decide +kernel) rfl, tb_in 28 (by decide +kernel) rfl, by decide +kernel, by decide +kernel, by decide +kernel⟩
theorem yv_X6_load : Cond.instanceMethod yX6_load ∈ TB ∧ Cond.selects RX6 yX6_load yX6_load ∈ TB := ⟨tb_in 547 (by decide +kernel) rfl, tb_in 548 (by decide +kernel) rfl⟩
theorem yc_X3_loadOfTimers : YC yX3_loadOfTimers cX3_loadOfTimers 6 (some .int) 0 := ⟨tb_in 553 (by decide +kernel) rfl, tb_in 29 (by decide +kernel) rfl, by decide +kernel, by decide +kernel, by decide +kernel⟩
theorem yv_X3_loadOfTimers : Cond.instanceMethod yX3_loadOfTimers ∈ TB ∧ Cond.selects RX3 yX3_loadOfTimers yX3_loadOfTimers ∈ TB := ⟨tb_in 551 (by decide +kernel) rfl, tb_in 552 (by decide +kernel) rfl⟩
theorem yc_X6_put : YC yX6_put cX6_put 3 (some .int) 1 := ⟨tb_in 558 (by decide +kernel) rfl, tb_in 28 (by decide +kernel) rfl, by decide +kernel, by decide +kernel, by decide +kernel⟩
theorem yv_X6_put : Cond.instanceMethod yX6_put ∈ TB ∧ Cond.selects RX6 yX6_put yX6_put ∈ TB := ⟨tb_in 556 (by decide +kernel) rfl, tb_in 557 (by decide +kernel) rfl⟩
theorem yc_X2_append : YC yX2_append cX2_append 5 (some .int) 1 := ⟨tb_in 562 (by decide +kernel) rfl, tb_in 34 (by decide +kernel) rfl, by decide +kernel, by decide +kernel, by decide +kernel⟩
theorem yv_X2_append : Cond.instanceMethod yX2_append ∈ TB ∧ Cond.selects RX2 yX2_append yX2_append ∈ TB := ⟨tb_in 560 (by decide +kernel) rfl, tb_in 561 (by decide +kernel) rfl⟩
theorem yc_X2_lengthOf : YC yX2_lengthOf cX2_lengthOf 5 (some .int) 1 := ⟨tb_in 565 (by decide +kernel) rfl, tb_in 34 (by decide +kernel) rfl, by decide +kernel, by decide +kernel, by decide +kernel⟩
theorem ys_X2_lengthOf : Cond.static yX2_lengthOf ∈ TB := tb_in 564 (by decide +kernel) rfl
theorem yc_X6_wipe : YC yX6_wipe cX6_wipe 1 (some .int) 0 := ⟨tb_in 571 (by decide +kernel) rfl, tb_in 28 (by decide +kernel) rfl, by decide +kernel, by decide +kernel, by decide +kernel⟩
theorem yv_X6_wipe : Cond.instanceMethod yX6_wipe ∈ TB ∧ Cond.selects RX6 yX6_wipe yX6_wipe ∈ TB := ⟨tb_in 569 (by decide +kernel) rfl, tb_in 570 (by decide +kernel) rfl⟩
theorem yc_X2_clear : YC yX2_clear cX2_clear 2 (some .int) 0 := ⟨tb_in 575 (by decide +kernel) rfl, tb_in 34 (by decide +kernel) rfl, by decide +kernel, by decide +kernel, by decide +kernel⟩
theorem yv_X2_clear : Cond.instanceMethod yX2_clear ∈ TB ∧ Cond.selects RX2 yX2_clear yX2_clear ∈ TB := ⟨tb_in 573 (by decide +kernel) rfl, tb_in 574 (by decide +kernel) rfl⟩
theorem yc_X6_fault : YC yX6_fault cX6_fault 1 (some .int) 0 := ⟨tb_in 579 (by decide +kernel) rfl, tb_in 28 (by decide +kernel) rfl, by decide +kernel, by decide +kernel, by decide +kernel⟩
theorem yv_X6_fault : Cond.instanceMethod yX6_fault ∈ TB ∧ Cond.selects RX6 yX6_fault yX6_fault ∈ TB := ⟨tb_in 577 (by decide +kernel) rfl, tb_in 578 (by decide +kernel) rfl⟩
theorem yc_X2_firstFault : YC yX2_firstFault cX2_firstFault 3 (some .int) 0 := ⟨tb_in 583 (by decide +kernel) rfl, tb_in 34 (by decide +kernel) rfl, by decide +kernel, by decide +kernel, by decide +kernel⟩
theorem yv_X2_firstFault : Cond.instanceMethod yX2_firstFault ∈ TB ∧ Cond.selects RX2 yX2_firstFault yX2_firstFault ∈ TB := ⟨tb_in 581 (by decide +kernel) rfl, tb_in 582 (by decide +kernel) rfl⟩
theorem yc_X2_dueAfter : YC yX2_dueAfter cX2_dueAfter 2 (some .int) 2 := ⟨tb_in 586 (by decide +kernel) rfl, tb_in 34 (by decide +kernel) rfl, by decide +kernel, by decide +kernel, by decide +kernel⟩
theorem ys_X2_dueAfter : Cond.static yX2_dueAfter ∈ TB := tb_in 585 (by decide +kernel) rfl
theorem yc_X2_mayEnd : YC yX2_mayEnd cX2_mayEnd 1 (some .boolean) 1 := ⟨tb_in 589 (by decide +kernel) rfl, tb_in 34 (by decide +kernel) rfl, by decide +kernel, by decide +kernel, by decide +kernel⟩
theorem ys_X2_mayEnd : Cond.static yX2_mayEnd ∈ TB := tb_in 588 (by decide +kernel) rfl
theorem yc_X2_dueAfterOrder : YC yX2_dueAfterOrder cX2_dueAfterOrder 1 (some .int) 1 := ⟨tb_in 592 (by decide +kernel) rfl, tb_in 34 (by decide +kernel) rfl, by decide +kernel, by decide +kernel, by decide +kernel⟩
theorem ys_X2_dueAfterOrder : Cond.static yX2_dueAfterOrder ∈ TB := tb_in 591 (by decide +kernel) rfl
theorem yc_X2_dueAfterDigit : YC yX2_dueAfterDigit cX2_dueAfterDigit 2 (some .int) 2 := ⟨tb_in 595 (by decide +kernel) rfl, tb_in 34 (by decide +kernel) rfl, by decide +kernel, by decide +kernel, by decide +kernel⟩
theorem ys_X2_dueAfterDigit : Cond.static yX2_dueAfterDigit ∈ TB := tb_in 594 (by decide +kernel) rfl
theorem yc_X6_carryOut : YC yX6_carryOut cX6_carryOut 4 (some .int) 0 := ⟨tb_in 599 (by decide +kernel) rfl, tb_in 28 (by decide +kernel) rfl, by decide +kernel, by decide +kernel, by decide +kernel⟩
theorem yv_X6_carryOut : Cond.instanceMethod yX6_carryOut ∈ TB ∧ Cond.selects RX6 yX6_carryOut yX6_carryOut ∈ TB := ⟨tb_in 597 (by decide +kernel) rfl, tb_in 598 (by decide +kernel) rfl⟩
theorem yc_X2_orderEndsAt : YC yX2_orderEndsAt cX2_orderEndsAt 2 (some .boolean) 1 := ⟨tb_in 603 (by decide +kernel) rfl, tb_in 34 (by decide +kernel) rfl, by decide +kernel, by decide +kernel, by decide +kernel⟩
theorem yv_X2_orderEndsAt : Cond.instanceMethod yX2_orderEndsAt ∈ TB ∧ Cond.selects RX2 yX2_orderEndsAt yX2_orderEndsAt ∈ TB := ⟨tb_in 601 (by decide +kernel) rfl, tb_in 602 (by decide +kernel) rfl⟩
theorem yc_X2_signAt : YC yX2_signAt cX2_signAt 2 (some .char) 1 := ⟨tb_in 607 (by decide +kernel) rfl, tb_in 34 (by decide +kernel) rfl, by decide +kernel, by decide +kernel, by decide +kernel⟩
theorem yv_X2_signAt : Cond.instanceMethod yX2_signAt ∈ TB ∧ Cond.selects RX2 yX2_signAt yX2_signAt ∈ TB := ⟨tb_in 605 (by decide +kernel) rfl, tb_in 606 (by decide +kernel) rfl⟩
theorem yc_X6_obey : YC yX6_obey cX6_obey 4 (some .int) 2 := ⟨tb_in 611 (by decide +kernel) rfl, tb_in 28 (by decide +kernel) rfl, by decide +kernel, by decide +kernel, by decide +kernel⟩
theorem yv_X6_obey : Cond.instanceMethod yX6_obey ∈ TB ∧ Cond.selects RX6 yX6_obey yX6_obey ∈ TB := ⟨tb_in 610 (by decide +kernel) rfl, tb_in 0 (by decide +kernel) rfl⟩
theorem yc_X2_numberBetween : YC yX2_numberBetween cX2_numberBetween 5 (some .int) 2 := ⟨tb_in 616 (by decide +kernel) rfl, tb_in 34 (by decide +kernel) rfl, by decide +kernel, by decide +kernel, by decide +kernel⟩
theorem yv_X2_numberBetween : Cond.instanceMethod yX2_numberBetween ∈ TB ∧ Cond.selects RX2 yX2_numberBetween yX2_numberBetween ∈ TB := ⟨tb_in 614 (by decide +kernel) rfl, tb_in 615 (by decide +kernel) rfl⟩
theorem yc_X6_undo : YC yX6_undo cX6_undo 1 (some .int) 0 := ⟨tb_in 620 (by decide +kernel) rfl, tb_in 28 (by decide +kernel) rfl, by decide +kernel, by decide +kernel, by decide +kernel⟩
theorem yv_X6_undo : Cond.instanceMethod yX6_undo ∈ TB ∧ Cond.selects RX6 yX6_undo yX6_undo ∈ TB := ⟨tb_in 618 (by decide +kernel) rfl, tb_in 619 (by decide +kernel) rfl⟩
theorem yc_X0_takeBack : YC yX0_takeBack cX0_takeBack 2 (some .int) 1 := ⟨tb_in 624 (by decide +kernel) rfl, tb_in 33 (by decide +kernel) rfl, by decide +kernel, by decide +kernel, by decide +kernel⟩
theorem yv_X0_takeBack : Cond.instanceMethod yX0_takeBack ∈ TB ∧ Cond.selects RX0 yX0_takeBack yX0_takeBack ∈ TB := ⟨tb_in 622 (by decide +kernel) rfl, tb_in 623 (by decide +kernel) rfl⟩
theorem yc_X6_save : YC yX6_save cX6_save 2 (some .int) 1 := ⟨tb_in 628 (by decide +kernel) rfl, tb_in 28 (by decide +kernel) rfl, by decide +kernel, by decide +kernel, by decide +kernel⟩
theorem yv_X6_save : Cond.instanceMethod yX6_save ∈ TB ∧ Cond.selects RX6 yX6_save yX6_save ∈ TB := ⟨tb_in 626 (by decide +kernel) rfl, tb_in 627 (by decide +kernel) rfl⟩
theorem yc_X6_restore : YC yX6_restore cX6_restore 2 (some .int) 1 := ⟨tb_in 632 (by decide +kernel) rfl, tb_in 28 (by decide +kernel) rfl, by decide +kernel, by decide +kernel, by decide +kernel⟩
theorem yv_X6_restore : Cond.instanceMethod yX6_restore ∈ TB ∧ Cond.selects RX6 yX6_restore yX6_restore ∈ TB := ⟨tb_in 630 (by decide +kernel) rfl, tb_in 631 (by decide +kernel) rfl⟩
theorem yc_X7_init : YC yX7_init cX7_init 1 none 0 := ⟨tb_in 637 (by decide +kernel) rfl, tb_in 35 (by decide +kernel) rfl, by decide +kernel, by decide +kernel, by decide +kernel⟩
theorem yi_X7_init : Cond.instanceMethod yX7_init ∈ TB := tb_in 636 (by decide +kernel) rfl
theorem yc_X7_set : YC yX7_set cX7_set 4 (some .int) 2 := ⟨tb_in 682 (by decide +kernel) rfl, tb_in 35 (by decide +kernel) rfl, by decide +kernel, by decide +kernel, by decide +kernel⟩
theorem yv_X7_set : Cond.instanceMethod yX7_set ∈ TB ∧ Cond.selects RX7 yX7_set yX7_set ∈ TB := ⟨tb_in 680 (by decide +kernel) rfl, tb_in 681 (by decide +kernel) rfl⟩
theorem yc_X7_in : YC yX7_in cX7_in 3 (some .boolean) 3 := ⟨tb_in 685 (by decide +kernel) rfl, tb_in 35 (by decide +kernel) rfl, by decide +kernel, by decide +kernel, by decide +kernel⟩
theorem ys_X7_in : Cond.static yX7_in ∈ TB := tb_in 684 (by decide +kernel) rfl
theorem yc_X7_least : YC yX7_least cX7_least 1 (some .int) 1 := ⟨tb_in 688 (by decide +kernel) rfl, tb_in 35 (by decide +kernel) rfl, by decide +kernel, by decide +kernel, by decide +kernel⟩
theorem ys_X7_least : Cond.static yX7_least ∈ TB := tb_in 687 (by decide +kernel) rfl
theorem yc_X7_most : YC yX7_most cX7_most 1 (some .int) 1 := ⟨tb_in 691 (by decide +kernel) rfl, tb_in 35 (by decide +kernel) rfl, by decide +kernel, by decide +kernel, by decide +kernel⟩
theorem ys_X7_most : Cond.static yX7_most ∈ TB := tb_in 690 (by decide +kernel) rfl
theorem yc_X7_record : YC yX7_record cX7_record 2 none 0 := ⟨tb_in 695 (by decide +kernel) rfl, tb_in 35 (by decide +kernel) rfl, by decide +kernel, by decide +kernel, by decide +kernel⟩
theorem yv_X7_record : Cond.instanceMethod yX7_record ∈ TB ∧ Cond.selects RX7 yX7_record yX7_record ∈ TB := ⟨tb_in 694 (by decide +kernel) rfl, tb_in 1 (by decide +kernel) rfl⟩
theorem yc_X7_line : YC yX7_line cX7_line 6 (some .int) 4 := ⟨tb_in 699 (by decide +kernel) rfl, tb_in 35 (by decide +kernel) rfl, by decide +kernel, by decide +kernel, by decide +kernel⟩
theorem yv_X7_line : Cond.instanceMethod yX7_line ∈ TB ∧ Cond.selects RX7 yX7_line yX7_line ∈ TB := ⟨tb_in 697 (by decide +kernel) rfl, tb_in 698 (by decide +kernel) rfl⟩
theorem yc_X7_areSizes : YC yX7_areSizes cX7_areSizes 3 (some .boolean) 3 := ⟨tb_in 702 (by decide +kernel) rfl, tb_in 35 (by decide +kernel) rfl, by decide +kernel, by decide +kernel, by decide +kernel⟩
theorem ys_X7_areSizes : Cond.static yX7_areSizes ∈ TB := tb_in 701 (by decide +kernel) rfl
theorem yc_X7_timer : YC yX7_timer cX7_timer 5 (some .int) 3 := ⟨tb_in 706 (by decide +kernel) rfl, tb_in 35 (by decide +kernel) rfl, by decide +kernel, by decide +kernel, by decide +kernel⟩
theorem yv_X7_timer : Cond.instanceMethod yX7_timer ∈ TB ∧ Cond.selects RX7 yX7_timer yX7_timer ∈ TB := ⟨tb_in 704 (by decide +kernel) rfl, tb_in 705 (by decide +kernel) rfl⟩
theorem yc_X7_isLine : YC yX7_isLine cX7_isLine 2 (some .boolean) 1 := ⟨tb_in 710 (by decide +kernel) rfl, tb_in 35 (by decide +kernel) rfl, by decide +kernel, by decide +kernel, by decide +kernel⟩
theorem yv_X7_isLine : Cond.instanceMethod yX7_isLine ∈ TB ∧ Cond.selects RX7 yX7_isLine yX7_isLine ∈ TB := ⟨tb_in 709 (by decide +kernel) rfl, tb_in 2 (by decide +kernel) rfl⟩
theorem yc_X7_of : YC yX7_of cX7_of 3 (some .int) 2 := ⟨tb_in 714 (by decide +kernel) rfl, tb_in 35 (by decide +kernel) rfl, by decide +kernel, by decide +kernel, by decide +kernel⟩
theorem yv_X7_of : Cond.instanceMethod yX7_of ∈ TB ∧ Cond.selects RX7 yX7_of yX7_of ∈ TB := ⟨tb_in 713 (by decide +kernel) rfl, tb_in 3 (by decide +kernel) rfl⟩
theorem yc_X7_stop : YC yX7_stop cX7_stop 3 (some .int) 1 := ⟨tb_in 718 (by decide +kernel) rfl, tb_in 35 (by decide +kernel) rfl, by decide +kernel, by decide +kernel, by decide +kernel⟩
theorem yv_X7_stop : Cond.instanceMethod yX7_stop ∈ TB ∧ Cond.selects RX7 yX7_stop yX7_stop ∈ TB := ⟨tb_in 716 (by decide +kernel) rfl, tb_in 717 (by decide +kernel) rfl⟩
theorem yc_X7_raise : YC yX7_raise cX7_raise 2 (some .int) 1 := ⟨tb_in 722 (by decide +kernel) rfl, tb_in 35 (by decide +kernel) rfl, by decide +kernel, by decide +kernel, by decide +kernel⟩
theorem yv_X7_raise : Cond.instanceMethod yX7_raise ∈ TB ∧ Cond.selects RX7 yX7_raise yX7_raise ∈ TB := ⟨tb_in 720 (by decide +kernel) rfl, tb_in 721 (by decide +kernel) rfl⟩
theorem yc_X7_edge : YC yX7_edge cX7_edge 2 (some .boolean) 1 := ⟨tb_in 726 (by decide +kernel) rfl, tb_in 35 (by decide +kernel) rfl, by decide +kernel, by decide +kernel, by decide +kernel⟩
theorem yv_X7_edge : Cond.instanceMethod yX7_edge ∈ TB ∧ Cond.selects RX7 yX7_edge yX7_edge ∈ TB := ⟨tb_in 725 (by decide +kernel) rfl, tb_in 4 (by decide +kernel) rfl⟩
theorem yc_X7_book : YC yX7_book cX7_book 6 none 4 := ⟨tb_in 730 (by decide +kernel) rfl, tb_in 35 (by decide +kernel) rfl, by decide +kernel, by decide +kernel, by decide +kernel⟩
theorem yv_X7_book : Cond.instanceMethod yX7_book ∈ TB ∧ Cond.selects RX7 yX7_book yX7_book ∈ TB := ⟨tb_in 729 (by decide +kernel) rfl, tb_in 5 (by decide +kernel) rfl⟩
theorem yc_X7_waits : YC yX7_waits cX7_waits 2 (some .boolean) 1 := ⟨tb_in 734 (by decide +kernel) rfl, tb_in 35 (by decide +kernel) rfl, by decide +kernel, by decide +kernel, by decide +kernel⟩
theorem yv_X7_waits : Cond.instanceMethod yX7_waits ∈ TB ∧ Cond.selects RX7 yX7_waits yX7_waits ∈ TB := ⟨tb_in 733 (by decide +kernel) rfl, tb_in 6 (by decide +kernel) rfl⟩
theorem yc_X7_turn : YC yX7_turn cX7_turn 3 none 2 := ⟨tb_in 738 (by decide +kernel) rfl, tb_in 35 (by decide +kernel) rfl, by decide +kernel, by decide +kernel, by decide +kernel⟩
theorem yv_X7_turn : Cond.instanceMethod yX7_turn ∈ TB ∧ Cond.selects RX7 yX7_turn yX7_turn ∈ TB := ⟨tb_in 737 (by decide +kernel) rfl, tb_in 7 (by decide +kernel) rfl⟩
theorem yc_X7_hold : YC yX7_hold cX7_hold 4 (some .int) 3 := ⟨tb_in 742 (by decide +kernel) rfl, tb_in 35 (by decide +kernel) rfl, by decide +kernel, by decide +kernel, by decide +kernel⟩
theorem yv_X7_hold : Cond.instanceMethod yX7_hold ∈ TB ∧ Cond.selects RX7 yX7_hold yX7_hold ∈ TB := ⟨tb_in 740 (by decide +kernel) rfl, tb_in 741 (by decide +kernel) rfl⟩
theorem yc_X7_look : YC yX7_look cX7_look 3 none 1 := ⟨tb_in 746 (by decide +kernel) rfl, tb_in 35 (by decide +kernel) rfl, by decide +kernel, by decide +kernel, by decide +kernel⟩
theorem yv_X7_look : Cond.instanceMethod yX7_look ∈ TB ∧ Cond.selects RX7 yX7_look yX7_look ∈ TB := ⟨tb_in 745 (by decide +kernel) rfl, tb_in 8 (by decide +kernel) rfl⟩
theorem yc_X7_placeOf : YC yX7_placeOf cX7_placeOf 4 (some .int) 1 := ⟨tb_in 750 (by decide +kernel) rfl, tb_in 35 (by decide +kernel) rfl, by decide +kernel, by decide +kernel, by decide +kernel⟩
theorem yv_X7_placeOf : Cond.instanceMethod yX7_placeOf ∈ TB ∧ Cond.selects RX7 yX7_placeOf yX7_placeOf ∈ TB := ⟨tb_in 749 (by decide +kernel) rfl, tb_in 9 (by decide +kernel) rfl⟩
theorem yc_X7_mask : YC yX7_mask cX7_mask 4 (some .int) 2 := ⟨tb_in 754 (by decide +kernel) rfl, tb_in 35 (by decide +kernel) rfl, by decide +kernel, by decide +kernel, by decide +kernel⟩
theorem yv_X7_mask : Cond.instanceMethod yX7_mask ∈ TB ∧ Cond.selects RX7 yX7_mask yX7_mask ∈ TB := ⟨tb_in 752 (by decide +kernel) rfl, tb_in 753 (by decide +kernel) rfl⟩
theorem yc_X7_change : YC yX7_change cX7_change 6 (some .int) 4 := ⟨tb_in 758 (by decide +kernel) rfl, tb_in 35 (by decide +kernel) rfl, by decide +kernel, by decide +kernel, by decide +kernel⟩
theorem yv_X7_change : Cond.instanceMethod yX7_change ∈ TB ∧ Cond.selects RX7 yX7_change yX7_change ∈ TB := ⟨tb_in 756 (by decide +kernel) rfl, tb_in 757 (by decide +kernel) rfl⟩
theorem yc_X7_ticks : YC yX7_ticks cX7_ticks 3 (some .int) 1 := ⟨tb_in 762 (by decide +kernel) rfl, tb_in 35 (by decide +kernel) rfl, by decide +kernel, by decide +kernel, by decide +kernel⟩
theorem yv_X7_ticks : Cond.instanceMethod yX7_ticks ∈ TB ∧ Cond.selects RX7 yX7_ticks yX7_ticks ∈ TB := ⟨tb_in 760 (by decide +kernel) rfl, tb_in 761 (by decide +kernel) rfl⟩
theorem yc_X7_pass : YC yX7_pass cX7_pass 4 none 0 := ⟨tb_in 766 (by decide +kernel) rfl, tb_in 35 (by decide +kernel) rfl, by decide +kernel, by decide +kernel, by decide +kernel⟩
theorem yv_X7_pass : Cond.instanceMethod yX7_pass ∈ TB ∧ Cond.selects RX7 yX7_pass yX7_pass ∈ TB := ⟨tb_in 765 (by decide +kernel) rfl, tb_in 10 (by decide +kernel) rfl⟩
theorem yc_X7_found : YC yX7_found cX7_found 4 (some .int) 0 := ⟨tb_in 770 (by decide +kernel) rfl, tb_in 35 (by decide +kernel) rfl, by decide +kernel, by decide +kernel, by decide +kernel⟩
theorem yv_X7_found : Cond.instanceMethod yX7_found ∈ TB ∧ Cond.selects RX7 yX7_found yX7_found ∈ TB := ⟨tb_in 769 (by decide +kernel) rfl, tb_in 11 (by decide +kernel) rfl⟩
theorem yc_X7_present : YC yX7_present cX7_present 4 (some .int) 1 := ⟨tb_in 774 (by decide +kernel) rfl, tb_in 35 (by decide +kernel) rfl, by decide +kernel, by decide +kernel, by decide +kernel⟩
theorem yv_X7_present : Cond.instanceMethod yX7_present ∈ TB ∧ Cond.selects RX7 yX7_present yX7_present ∈ TB := ⟨tb_in 773 (by decide +kernel) rfl, tb_in 12 (by decide +kernel) rfl⟩
theorem yc_X7_begin : YC yX7_begin cX7_begin 4 none 1 := ⟨tb_in 778 (by decide +kernel) rfl, tb_in 35 (by decide +kernel) rfl, by decide +kernel, by decide +kernel, by decide +kernel⟩
theorem yv_X7_begin : Cond.instanceMethod yX7_begin ∈ TB ∧ Cond.selects RX7 yX7_begin yX7_begin ∈ TB := ⟨tb_in 777 (by decide +kernel) rfl, tb_in 13 (by decide +kernel) rfl⟩
theorem yc_X7_end : YC yX7_end cX7_end 3 none 1 := ⟨tb_in 782 (by decide +kernel) rfl, tb_in 35 (by decide +kernel) rfl, by decide +kernel, by decide +kernel, by decide +kernel⟩
theorem yv_X7_end : Cond.instanceMethod yX7_end ∈ TB ∧ Cond.selects RX7 yX7_end yX7_end ∈ TB := ⟨tb_in 781 (by decide +kernel) rfl, tb_in 14 (by decide +kernel) rfl⟩
theorem yc_X7_ofLine : YC yX7_ofLine cX7_ofLine 3 (some .int) 2 := ⟨tb_in 786 (by decide +kernel) rfl, tb_in 35 (by decide +kernel) rfl, by decide +kernel, by decide +kernel, by decide +kernel⟩
theorem yv_X7_ofLine : Cond.instanceMethod yX7_ofLine ∈ TB ∧ Cond.selects RX7 yX7_ofLine yX7_ofLine ∈ TB := ⟨tb_in 784 (by decide +kernel) rfl, tb_in 785 (by decide +kernel) rfl⟩
theorem yc_X7_ofNest : YC yX7_ofNest cX7_ofNest 3 (some .int) 2 := ⟨tb_in 790 (by decide +kernel) rfl, tb_in 35 (by decide +kernel) rfl, by decide +kernel, by decide +kernel, by decide +kernel⟩
theorem yv_X7_ofNest : Cond.instanceMethod yX7_ofNest ∈ TB ∧ Cond.selects RX7 yX7_ofNest yX7_ofNest ∈ TB := ⟨tb_in 788 (by decide +kernel) rfl, tb_in 789 (by decide +kernel) rfl⟩
theorem yc_X7_ofTimer : YC yX7_ofTimer cX7_ofTimer 3 (some .int) 2 := ⟨tb_in 794 (by decide +kernel) rfl, tb_in 35 (by decide +kernel) rfl, by decide +kernel, by decide +kernel, by decide +kernel⟩
theorem yv_X7_ofTimer : Cond.instanceMethod yX7_ofTimer ∈ TB ∧ Cond.selects RX7 yX7_ofTimer yX7_ofTimer ∈ TB := ⟨tb_in 792 (by decide +kernel) rfl, tb_in 793 (by decide +kernel) rfl⟩
theorem yc_X7_count : YC yX7_count cX7_count 2 (some .int) 1 := ⟨tb_in 798 (by decide +kernel) rfl, tb_in 35 (by decide +kernel) rfl, by decide +kernel, by decide +kernel, by decide +kernel⟩
theorem yv_X7_count : Cond.instanceMethod yX7_count ∈ TB ∧ Cond.selects RX7 yX7_count yX7_count ∈ TB := ⟨tb_in 796 (by decide +kernel) rfl, tb_in 797 (by decide +kernel) rfl⟩
theorem yc_X7_waiting : YC yX7_waiting cX7_waiting 3 (some .int) 0 := ⟨tb_in 802 (by decide +kernel) rfl, tb_in 35 (by decide +kernel) rfl, by decide +kernel, by decide +kernel, by decide +kernel⟩
theorem yv_X7_waiting : Cond.instanceMethod yX7_waiting ∈ TB ∧ Cond.selects RX7 yX7_waiting yX7_waiting ∈ TB := ⟨tb_in 801 (by decide +kernel) rfl, tb_in 15 (by decide +kernel) rfl⟩
theorem yc_X7_misses : YC yX7_misses cX7_misses 3 (some .int) 0 := ⟨tb_in 806 (by decide +kernel) rfl, tb_in 35 (by decide +kernel) rfl, by decide +kernel, by decide +kernel, by decide +kernel⟩
theorem yv_X7_misses : Cond.instanceMethod yX7_misses ∈ TB ∧ Cond.selects RX7 yX7_misses yX7_misses ∈ TB := ⟨tb_in 805 (by decide +kernel) rfl, tb_in 16 (by decide +kernel) rfl⟩
theorem yc_X7_beginsIn : YC yX7_beginsIn cX7_beginsIn 3 (some .int) 1 := ⟨tb_in 810 (by decide +kernel) rfl, tb_in 35 (by decide +kernel) rfl, by decide +kernel, by decide +kernel, by decide +kernel⟩
theorem yv_X7_beginsIn : Cond.instanceMethod yX7_beginsIn ∈ TB ∧ Cond.selects RX7 yX7_beginsIn yX7_beginsIn ∈ TB := ⟨tb_in 808 (by decide +kernel) rfl, tb_in 809 (by decide +kernel) rfl⟩
theorem yc_X7_keep : YC yX7_keep cX7_keep 2 none 0 := ⟨tb_in 814 (by decide +kernel) rfl, tb_in 35 (by decide +kernel) rfl, by decide +kernel, by decide +kernel, by decide +kernel⟩
theorem yv_X7_keep : Cond.instanceMethod yX7_keep ∈ TB ∧ Cond.selects RX7 yX7_keep yX7_keep ∈ TB := ⟨tb_in 813 (by decide +kernel) rfl, tb_in 17 (by decide +kernel) rfl⟩
theorem yc_X7_beginsWithin : YC yX7_beginsWithin cX7_beginsWithin 5 (some .int) 2 := ⟨tb_in 818 (by decide +kernel) rfl, tb_in 35 (by decide +kernel) rfl, by decide +kernel, by decide +kernel, by decide +kernel⟩
theorem yv_X7_beginsWithin : Cond.instanceMethod yX7_beginsWithin ∈ TB ∧ Cond.selects RX7 yX7_beginsWithin yX7_beginsWithin ∈ TB := ⟨tb_in 817 (by decide +kernel) rfl, tb_in 18 (by decide +kernel) rfl⟩
theorem yc_X7_comeBack : YC yX7_comeBack cX7_comeBack 2 none 0 := ⟨tb_in 822 (by decide +kernel) rfl, tb_in 35 (by decide +kernel) rfl, by decide +kernel, by decide +kernel, by decide +kernel⟩
theorem yv_X7_comeBack : Cond.instanceMethod yX7_comeBack ∈ TB ∧ Cond.selects RX7 yX7_comeBack yX7_comeBack ∈ TB := ⟨tb_in 821 (by decide +kernel) rfl, tb_in 19 (by decide +kernel) rfl⟩
theorem yc_X7_idleIn : YC yX7_idleIn cX7_idleIn 3 (some .int) 0 := ⟨tb_in 826 (by decide +kernel) rfl, tb_in 35 (by decide +kernel) rfl, by decide +kernel, by decide +kernel, by decide +kernel⟩
theorem yv_X7_idleIn : Cond.instanceMethod yX7_idleIn ∈ TB ∧ Cond.selects RX7 yX7_idleIn yX7_idleIn ∈ TB := ⟨tb_in 824 (by decide +kernel) rfl, tb_in 825 (by decide +kernel) rfl⟩
theorem yc_X7_missesIn : YC yX7_missesIn cX7_missesIn 4 (some .int) 1 := ⟨tb_in 830 (by decide +kernel) rfl, tb_in 35 (by decide +kernel) rfl, by decide +kernel, by decide +kernel, by decide +kernel⟩
theorem yv_X7_missesIn : Cond.instanceMethod yX7_missesIn ∈ TB ∧ Cond.selects RX7 yX7_missesIn yX7_missesIn ∈ TB := ⟨tb_in 828 (by decide +kernel) rfl, tb_in 829 (by decide +kernel) rfl⟩
theorem yc_X7_greatestBar : YC yX7_greatestBar cX7_greatestBar 5 (some .int) 2 := ⟨tb_in 834 (by decide +kernel) rfl, tb_in 35 (by decide +kernel) rfl, by decide +kernel, by decide +kernel, by decide +kernel⟩
theorem yv_X7_greatestBar : Cond.instanceMethod yX7_greatestBar ∈ TB ∧ Cond.selects RX7 yX7_greatestBar yX7_greatestBar ∈ TB := ⟨tb_in 832 (by decide +kernel) rfl, tb_in 833 (by decide +kernel) rfl⟩
theorem yc_X7_bound : YC yX7_bound cX7_bound 7 (some .int) 1 := ⟨tb_in 838 (by decide +kernel) rfl, tb_in 35 (by decide +kernel) rfl, by decide +kernel, by decide +kernel, by decide +kernel⟩
theorem yv_X7_bound : Cond.instanceMethod yX7_bound ∈ TB ∧ Cond.selects RX7 yX7_bound yX7_bound ∈ TB := ⟨tb_in 836 (by decide +kernel) rfl, tb_in 837 (by decide +kernel) rfl⟩
theorem yc_X7_costOf : YC yX7_costOf cX7_costOf 2 (some .int) 1 := ⟨tb_in 842 (by decide +kernel) rfl, tb_in 35 (by decide +kernel) rfl, by decide +kernel, by decide +kernel, by decide +kernel⟩
theorem yv_X7_costOf : Cond.instanceMethod yX7_costOf ∈ TB ∧ Cond.selects RX7 yX7_costOf yX7_costOf ∈ TB := ⟨tb_in 841 (by decide +kernel) rfl, tb_in 20 (by decide +kernel) rfl⟩
theorem yc_X7_load : YC yX7_load cX7_load 7 (some .int) 0 := ⟨tb_in 846 (by decide +kernel) rfl, tb_in 35 (by decide +kernel) rfl, by decide +kernel, by decide +kernel, by decide +kernel⟩
theorem yv_X7_load : Cond.instanceMethod yX7_load ∈ TB ∧ Cond.selects RX7 yX7_load yX7_load ∈ TB := ⟨tb_in 844 (by decide +kernel) rfl, tb_in 845 (by decide +kernel) rfl⟩
theorem yc_X7_put : YC yX7_put cX7_put 7 (some .int) 1 := ⟨tb_in 850 (by decide +kernel) rfl, tb_in 35 (by decide +kernel) rfl, by decide +kernel, by decide +kernel, by decide +kernel⟩
theorem yv_X7_put : Cond.instanceMethod yX7_put ∈ TB ∧ Cond.selects RX7 yX7_put yX7_put ∈ TB := ⟨tb_in 848 (by decide +kernel) rfl, tb_in 849 (by decide +kernel) rfl⟩
theorem yc_X7_wipe : YC yX7_wipe cX7_wipe 2 (some .int) 0 := ⟨tb_in 855 (by decide +kernel) rfl, tb_in 35 (by decide +kernel) rfl, by decide +kernel, by decide +kernel, by decide +kernel⟩
theorem yv_X7_wipe : Cond.instanceMethod yX7_wipe ∈ TB ∧ Cond.selects RX7 yX7_wipe yX7_wipe ∈ TB := ⟨tb_in 853 (by decide +kernel) rfl, tb_in 854 (by decide +kernel) rfl⟩
theorem yc_X7_fault : YC yX7_fault cX7_fault 1 (some .int) 0 := ⟨tb_in 859 (by decide +kernel) rfl, tb_in 35 (by decide +kernel) rfl, by decide +kernel, by decide +kernel, by decide +kernel⟩
theorem yv_X7_fault : Cond.instanceMethod yX7_fault ∈ TB ∧ Cond.selects RX7 yX7_fault yX7_fault ∈ TB := ⟨tb_in 857 (by decide +kernel) rfl, tb_in 858 (by decide +kernel) rfl⟩
theorem yc_X7_faultOf : YC yX7_faultOf cX7_faultOf 1 (some .int) 0 := ⟨tb_in 863 (by decide +kernel) rfl, tb_in 35 (by decide +kernel) rfl, by decide +kernel, by decide +kernel, by decide +kernel⟩
theorem yv_X7_faultOf : Cond.instanceMethod yX7_faultOf ∈ TB ∧ Cond.selects RX7 yX7_faultOf yX7_faultOf ∈ TB := ⟨tb_in 862 (by decide +kernel) rfl, tb_in 21 (by decide +kernel) rfl⟩
theorem yc_X7_readOne : YC yX7_readOne cX7_readOne 3 none 0 := ⟨tb_in 867 (by decide +kernel) rfl, tb_in 35 (by decide +kernel) rfl, by decide +kernel, by decide +kernel, by decide +kernel⟩
theorem yv_X7_readOne : Cond.instanceMethod yX7_readOne ∈ TB ∧ Cond.selects RX7 yX7_readOne yX7_readOne ∈ TB := ⟨tb_in 866 (by decide +kernel) rfl, tb_in 22 (by decide +kernel) rfl⟩
theorem yc_X7_sign : YC yX7_sign cX7_sign 1 (some .int) 0 := ⟨tb_in 871 (by decide +kernel) rfl, tb_in 35 (by decide +kernel) rfl, by decide +kernel, by decide +kernel, by decide +kernel⟩
theorem yv_X7_sign : Cond.instanceMethod yX7_sign ∈ TB ∧ Cond.selects RX7 yX7_sign yX7_sign ∈ TB := ⟨tb_in 870 (by decide +kernel) rfl, tb_in 23 (by decide +kernel) rfl⟩
theorem yc_X7_number : YC yX7_number cX7_number 2 (some .int) 0 := ⟨tb_in 875 (by decide +kernel) rfl, tb_in 35 (by decide +kernel) rfl, by decide +kernel, by decide +kernel, by decide +kernel⟩
theorem yv_X7_number : Cond.instanceMethod yX7_number ∈ TB ∧ Cond.selects RX7 yX7_number yX7_number ∈ TB := ⟨tb_in 874 (by decide +kernel) rfl, tb_in 24 (by decide +kernel) rfl⟩
theorem yc_X7_one : YC yX7_one cX7_one 4 (some .int) 2 := ⟨tb_in 879 (by decide +kernel) rfl, tb_in 35 (by decide +kernel) rfl, by decide +kernel, by decide +kernel, by decide +kernel⟩
theorem yv_X7_one : Cond.instanceMethod yX7_one ∈ TB ∧ Cond.selects RX7 yX7_one yX7_one ∈ TB := ⟨tb_in 878 (by decide +kernel) rfl, tb_in 25 (by decide +kernel) rfl⟩
theorem yc_X7_carryOut : YC yX7_carryOut cX7_carryOut 2 (some .int) 0 := ⟨tb_in 883 (by decide +kernel) rfl, tb_in 35 (by decide +kernel) rfl, by decide +kernel, by decide +kernel, by decide +kernel⟩
theorem yv_X7_carryOut : Cond.instanceMethod yX7_carryOut ∈ TB ∧ Cond.selects RX7 yX7_carryOut yX7_carryOut ∈ TB := ⟨tb_in 881 (by decide +kernel) rfl, tb_in 882 (by decide +kernel) rfl⟩
theorem yc_X7_carry : YC yX7_carry cX7_carry 3 (some .int) 1 := ⟨tb_in 887 (by decide +kernel) rfl, tb_in 35 (by decide +kernel) rfl, by decide +kernel, by decide +kernel, by decide +kernel⟩
theorem yv_X7_carry : Cond.instanceMethod yX7_carry ∈ TB ∧ Cond.selects RX7 yX7_carry yX7_carry ∈ TB := ⟨tb_in 886 (by decide +kernel) rfl, tb_in 26 (by decide +kernel) rfl⟩
theorem yc_X7_undo : YC yX7_undo cX7_undo 2 (some .int) 0 := ⟨tb_in 895 (by decide +kernel) rfl, tb_in 35 (by decide +kernel) rfl, by decide +kernel, by decide +kernel, by decide +kernel⟩
theorem yv_X7_undo : Cond.instanceMethod yX7_undo ∈ TB ∧ Cond.selects RX7 yX7_undo yX7_undo ∈ TB := ⟨tb_in 893 (by decide +kernel) rfl, tb_in 894 (by decide +kernel) rfl⟩
theorem yc_X7_save : YC yX7_save cX7_save 3 (some .int) 1 := ⟨tb_in 899 (by decide +kernel) rfl, tb_in 35 (by decide +kernel) rfl, by decide +kernel, by decide +kernel, by decide +kernel⟩
theorem yv_X7_save : Cond.instanceMethod yX7_save ∈ TB ∧ Cond.selects RX7 yX7_save yX7_save ∈ TB := ⟨tb_in 897 (by decide +kernel) rfl, tb_in 898 (by decide +kernel) rfl⟩
theorem yc_X7_restore : YC yX7_restore cX7_restore 3 (some .int) 1 := ⟨tb_in 903 (by decide +kernel) rfl, tb_in 35 (by decide +kernel) rfl, by decide +kernel, by decide +kernel, by decide +kernel⟩
theorem yv_X7_restore : Cond.instanceMethod yX7_restore ∈ TB ∧ Cond.selects RX7 yX7_restore yX7_restore ∈ TB := ⟨tb_in 901 (by decide +kernel) rfl, tb_in 902 (by decide +kernel) rfl⟩
theorem ml_L_9 : Cond.methodLink RL 9 yX6_init ∈ TB := tb_in 39 (by decide +kernel) rfl
theorem ml_X6_1 : Cond.methodLink RX6 1 objectInit ∈ TB := tb_in 42 (by decide +kernel) rfl
theorem ml_X6_9 : Cond.methodLink RX6 9 yX3_init ∈ TB := tb_in 47 (by decide +kernel) rfl
theorem ml_X3_3 : Cond.methodLink RX3 3 objectInit ∈ TB := tb_in 50 (by decide +kernel) rfl
theorem ml_X3_13 : Cond.methodLink RX3 13 ⟨"[I", "clone", "()Ljava/lang/Object;"⟩ ∈ TB := tb_in 53 (by decide +kernel) rfl
theorem ml_X1_3 : Cond.methodLink RX1 3 objectInit ∈ TB := tb_in 66 (by decide +kernel) rfl
theorem ml_X5_3 : Cond.methodLink RX5 3 objectInit ∈ TB := tb_in 131 (by decide +kernel) rfl
theorem ml_X4_3 : Cond.methodLink RX4 3 objectInit ∈ TB := tb_in 151 (by decide +kernel) rfl
theorem ml_X6_29 : Cond.methodLink RX6 29 yX0_init ∈ TB := tb_in 207 (by decide +kernel) rfl
theorem ml_X0_3 : Cond.methodLink RX0 3 objectInit ∈ TB := tb_in 210 (by decide +kernel) rfl
theorem ml_X0_17 : Cond.methodLink RX0 17 yX3_init ∈ TB := tb_in 212 (by decide +kernel) rfl
theorem ml_X6_36 : Cond.methodLink RX6 36 yX2_init ∈ TB := tb_in 227 (by decide +kernel) rfl
theorem ml_X2_3 : Cond.methodLink RX2 3 objectInit ∈ TB := tb_in 230 (by decide +kernel) rfl
theorem ml_L_13 : Cond.methodLink RL 13 yX6_set ∈ TB := tb_in 259 (by decide +kernel) rfl
theorem ml_X6_41 : Cond.methodLink RX6 41 yX0_prepare ∈ TB := tb_in 263 (by decide +kernel) rfl
theorem ml_X0_22 : Cond.methodLink RX0 22 yX3_copyFrom ∈ TB := tb_in 267 (by decide +kernel) rfl
theorem ml_X3_48 : Cond.methodLink RX3 48 arraycopyName ∈ TB := tb_in 271 (by decide +kernel) rfl
theorem ml_X3_57 : Cond.methodLink RX3 57 yX1_copyFrom ∈ TB := tb_in 274 (by decide +kernel) rfl
theorem ml_X3_64 : Cond.methodLink RX3 64 yX5_copyFrom ∈ TB := tb_in 278 (by decide +kernel) rfl
theorem ml_X3_70 : Cond.methodLink RX3 70 yX4_copyFrom ∈ TB := tb_in 282 (by decide +kernel) rfl
theorem ml_X6_45 : Cond.methodLink RX6 45 yX3_changeSetting ∈ TB := tb_in 286 (by decide +kernel) rfl
theorem ml_X6_49 : Cond.methodLink RX6 49 yX0_recordUnlessError ∈ TB := tb_in 297 (by decide +kernel) rfl
theorem ml_L_18 : Cond.methodLink RL 18 yX6_line ∈ TB := tb_in 301 (by decide +kernel) rfl
theorem ml_X6_53 : Cond.methodLink RX6 53 yX3_addLine ∈ TB := tb_in 305 (by decide +kernel) rfl
theorem ml_X3_92 : Cond.methodLink RX3 92 yX3_isShape ∈ TB := tb_in 309 (by decide +kernel) rfl
theorem ml_X3_95 : Cond.methodLink RX3 95 yX1_becomeNew ∈ TB := tb_in 312 (by decide +kernel) rfl
theorem ml_X3_99 : Cond.methodLink RX3 99 yX1_shape ∈ TB := tb_in 316 (by decide +kernel) rfl
theorem ml_L_23 : Cond.methodLink RL 23 yX6_timer ∈ TB := tb_in 320 (by decide +kernel) rfl
theorem ml_X6_57 : Cond.methodLink RX6 57 yX3_addTimer ∈ TB := tb_in 324 (by decide +kernel) rfl
theorem ml_X3_103 : Cond.methodLink RX3 103 yX3_hasLine ∈ TB := tb_in 328 (by decide +kernel) rfl
theorem ml_L_28 : Cond.methodLink RL 28 yX6_stop ∈ TB := tb_in 332 (by decide +kernel) rfl
theorem ml_X6_61 : Cond.methodLink RX6 61 yX3_removeTimer ∈ TB := tb_in 336 (by decide +kernel) rfl
theorem ml_X3_123 : Cond.methodLink RX3 123 yX3_hasTimer ∈ TB := tb_in 340 (by decide +kernel) rfl
theorem ml_L_33 : Cond.methodLink RL 33 yX6_raise ∈ TB := tb_in 344 (by decide +kernel) rfl
theorem ml_X6_64 : Cond.methodLink RX6 64 yX3_raiseLine ∈ TB := tb_in 348 (by decide +kernel) rfl
theorem ml_X3_126 : Cond.methodLink RX3 126 yX1_takeEdge ∈ TB := tb_in 352 (by decide +kernel) rfl
theorem ml_L_37 : Cond.methodLink RL 37 yX6_hold ∈ TB := tb_in 356 (by decide +kernel) rfl
theorem ml_X6_67 : Cond.methodLink RX6 67 yX3_holdLine ∈ TB := tb_in 360 (by decide +kernel) rfl
theorem ml_X3_130 : Cond.methodLink RX3 130 yX1_moveDevice ∈ TB := tb_in 364 (by decide +kernel) rfl
theorem ml_X1_61 : Cond.methodLink RX1 61 yX1_followDevices ∈ TB := tb_in 368 (by decide +kernel) rfl
theorem ml_L_41 : Cond.methodLink RL 41 yX6_mask ∈ TB := tb_in 372 (by decide +kernel) rfl
theorem ml_X6_70 : Cond.methodLink RX6 70 yX3_maskLine ∈ TB := tb_in 376 (by decide +kernel) rfl
theorem ml_L_45 : Cond.methodLink RL 45 yX6_change ∈ TB := tb_in 380 (by decide +kernel) rfl
theorem ml_X6_73 : Cond.methodLink RX6 73 yX3_changeLine ∈ TB := tb_in 384 (by decide +kernel) rfl
theorem ml_L_49 : Cond.methodLink RL 49 yX6_ticks ∈ TB := tb_in 388 (by decide +kernel) rfl
theorem ml_X6_76 : Cond.methodLink RX6 76 yX3_passTicks ∈ TB := tb_in 392 (by decide +kernel) rfl
theorem ml_X3_140 : Cond.methodLink RX3 140 yX3_passTick ∈ TB := tb_in 396 (by decide +kernel) rfl
theorem ml_X3_144 : Cond.methodLink RX3 144 yX3_raiseByTimers ∈ TB := tb_in 400 (by decide +kernel) rfl
theorem ml_X3_147 : Cond.methodLink RX3 147 yX3_beginFoundLine ∈ TB := tb_in 404 (by decide +kernel) rfl
theorem ml_X3_167 : Cond.methodLink RX3 167 yX3_foundLine ∈ TB := tb_in 408 (by decide +kernel) rfl
theorem ml_X3_156 : Cond.methodLink RX3 156 yX1_mayBegin ∈ TB := tb_in 412 (by decide +kernel) rfl
theorem ml_X3_160 : Cond.methodLink RX3 160 yX1_presentRank ∈ TB := tb_in 416 (by decide +kernel) rfl
theorem ml_X3_170 : Cond.methodLink RX3 170 yX3_nestTakes ∈ TB := tb_in 420 (by decide +kernel) rfl
theorem ml_X3_175 : Cond.methodLink RX3 175 yX3_costOf ∈ TB := tb_in 424 (by decide +kernel) rfl
theorem ml_X3_185 : Cond.methodLink RX3 185 yX1_enterNest ∈ TB := tb_in 428 (by decide +kernel) rfl
theorem ml_X3_150 : Cond.methodLink RX3 150 yX3_serveTop ∈ TB := tb_in 432 (by decide +kernel) rfl
theorem ml_X3_189 : Cond.methodLink RX3 189 yX1_leaveNest ∈ TB := tb_in 436 (by decide +kernel) rfl
theorem ml_X3_153 : Cond.methodLink RX3 153 yX3_growWaits ∈ TB := tb_in 440 (by decide +kernel) rfl
theorem ml_L_53 : Cond.methodLink RL 53 yX6_ofLine ∈ TB := tb_in 444 (by decide +kernel) rfl
theorem ml_X6_79 : Cond.methodLink RX6 79 yX3_numberOfLine ∈ TB := tb_in 448 (by decide +kernel) rfl
theorem ml_X3_195 : Cond.methodLink RX3 195 yX1_number ∈ TB := tb_in 452 (by decide +kernel) rfl
theorem ml_X1_64 : Cond.methodLink RX1 64 yX1_presentRank ∈ TB := tb_in 456 (by decide +kernel) rfl
theorem ml_L_57 : Cond.methodLink RL 57 yX6_ofNest ∈ TB := tb_in 457 (by decide +kernel) rfl
theorem ml_X6_82 : Cond.methodLink RX6 82 yX3_numberOfPlace ∈ TB := tb_in 461 (by decide +kernel) rfl
theorem ml_X3_199 : Cond.methodLink RX3 199 yX4_number ∈ TB := tb_in 465 (by decide +kernel) rfl
theorem ml_L_61 : Cond.methodLink RL 61 yX6_ofTimer ∈ TB := tb_in 469 (by decide +kernel) rfl
theorem ml_X6_85 : Cond.methodLink RX6 85 yX3_numberOfTimer ∈ TB := tb_in 473 (by decide +kernel) rfl
theorem ml_X3_201 : Cond.methodLink RX3 201 yX5_number ∈ TB := tb_in 477 (by decide +kernel) rfl
theorem ml_L_65 : Cond.methodLink RL 65 yX6_count ∈ TB := tb_in 481 (by decide +kernel) rfl
theorem ml_X6_95 : Cond.methodLink RX6 95 yX3_numberOfAll ∈ TB := tb_in 485 (by decide +kernel) rfl
theorem ml_X3_202 : Cond.methodLink RX3 202 yX3_waitingLines ∈ TB := tb_in 489 (by decide +kernel) rfl
theorem ml_X3_205 : Cond.methodLink RX3 205 yX3_missesOfAll ∈ TB := tb_in 493 (by decide +kernel) rfl
theorem ml_L_69 : Cond.methodLink RL 69 yX6_beginsIn ∈ TB := tb_in 497 (by decide +kernel) rfl
theorem ml_X6_98 : Cond.methodLink RX6 98 yX3_hasLine ∈ TB := tb_in 501 (by decide +kernel) rfl
theorem ml_X6_102 : Cond.methodLink RX6 102 yX3_copyFrom ∈ TB := tb_in 502 (by decide +kernel) rfl
theorem ml_X6_105 : Cond.methodLink RX6 105 yX3_ticksUntilBegin ∈ TB := tb_in 503 (by decide +kernel) rfl
theorem ml_L_73 : Cond.methodLink RL 73 yX6_idleIn ∈ TB := tb_in 507 (by decide +kernel) rfl
theorem ml_X6_108 : Cond.methodLink RX6 108 yX3_ticksUntilIdle ∈ TB := tb_in 511 (by decide +kernel) rfl
theorem ml_L_78 : Cond.methodLink RL 78 yX6_missesIn ∈ TB := tb_in 515 (by decide +kernel) rfl
theorem ml_X6_111 : Cond.methodLink RX6 111 yX6_within ∈ TB := tb_in 519 (by decide +kernel) rfl
theorem ml_X6_115 : Cond.methodLink RX6 115 yX3_missesOfAll ∈ TB := tb_in 520 (by decide +kernel) rfl
theorem ml_L_82 : Cond.methodLink RL 82 yX6_greatestBar ∈ TB := tb_in 521 (by decide +kernel) rfl
theorem ml_L_86 : Cond.methodLink RL 86 yX6_bound ∈ TB := tb_in 527 (by decide +kernel) rfl
theorem ml_X6_126 : Cond.methodLink RX6 126 yX3_leastBound ∈ TB := tb_in 531 (by decide +kernel) rfl
theorem ml_X3_214 : Cond.methodLink RX3 214 yX3_greatestCostBelow ∈ TB := tb_in 535 (by decide +kernel) rfl
theorem ml_X3_217 : Cond.methodLink RX3 217 yX3_costOfRivals ∈ TB := tb_in 539 (by decide +kernel) rfl
theorem ml_L_90 : Cond.methodLink RL 90 yX6_load ∈ TB := tb_in 546 (by decide +kernel) rfl
theorem ml_X6_129 : Cond.methodLink RX6 129 yX3_loadOfTimers ∈ TB := tb_in 550 (by decide +kernel) rfl
theorem ml_L_96 : Cond.methodLink RL 96 yX6_put ∈ TB := tb_in 555 (by decide +kernel) rfl
theorem ml_X6_132 : Cond.methodLink RX6 132 yX2_append ∈ TB := tb_in 559 (by decide +kernel) rfl
theorem ml_X2_15 : Cond.methodLink RX2 15 yX2_lengthOf ∈ TB := tb_in 563 (by decide +kernel) rfl
theorem ml_L_101 : Cond.methodLink RL 101 yX6_wipe ∈ TB := tb_in 568 (by decide +kernel) rfl
theorem ml_X6_136 : Cond.methodLink RX6 136 yX2_clear ∈ TB := tb_in 572 (by decide +kernel) rfl
theorem ml_L_105 : Cond.methodLink RL 105 yX6_fault ∈ TB := tb_in 576 (by decide +kernel) rfl
theorem ml_X6_139 : Cond.methodLink RX6 139 yX2_firstFault ∈ TB := tb_in 580 (by decide +kernel) rfl
theorem ml_X2_29 : Cond.methodLink RX2 29 yX2_dueAfter ∈ TB := tb_in 584 (by decide +kernel) rfl
theorem ml_X2_33 : Cond.methodLink RX2 33 yX2_mayEnd ∈ TB := tb_in 587 (by decide +kernel) rfl
theorem ml_X2_37 : Cond.methodLink RX2 37 yX2_dueAfterOrder ∈ TB := tb_in 590 (by decide +kernel) rfl
theorem ml_X2_41 : Cond.methodLink RX2 41 yX2_dueAfterDigit ∈ TB := tb_in 593 (by decide +kernel) rfl
theorem ml_L_109 : Cond.methodLink RL 109 yX6_carryOut ∈ TB := tb_in 596 (by decide +kernel) rfl
theorem ml_X6_142 : Cond.methodLink RX6 142 yX2_orderEndsAt ∈ TB := tb_in 600 (by decide +kernel) rfl
theorem ml_X2_45 : Cond.methodLink RX2 45 yX2_signAt ∈ TB := tb_in 604 (by decide +kernel) rfl
theorem ml_X6_145 : Cond.methodLink RX6 145 yX6_obey ∈ TB := tb_in 608 (by decide +kernel) rfl
theorem ml_X6_155 : Cond.methodLink RX6 155 yX2_signAt ∈ TB := tb_in 612 (by decide +kernel) rfl
theorem ml_X6_159 : Cond.methodLink RX6 159 yX2_numberBetween ∈ TB := tb_in 613 (by decide +kernel) rfl
theorem ml_L_113 : Cond.methodLink RL 113 yX6_undo ∈ TB := tb_in 617 (by decide +kernel) rfl
theorem ml_X6_148 : Cond.methodLink RX6 148 yX0_takeBack ∈ TB := tb_in 621 (by decide +kernel) rfl
theorem ml_L_117 : Cond.methodLink RL 117 yX6_save ∈ TB := tb_in 625 (by decide +kernel) rfl
theorem ml_L_121 : Cond.methodLink RL 121 yX6_restore ∈ TB := tb_in 629 (by decide +kernel) rfl
theorem ml_L_12 : Cond.methodLink RL 12 yX7_init ∈ TB := tb_in 635 (by decide +kernel) rfl
theorem ml_X7_1 : Cond.methodLink RX7 1 objectInit ∈ TB := tb_in 638 (by decide +kernel) rfl
theorem ml_L_17 : Cond.methodLink RL 17 yX7_set ∈ TB := tb_in 679 (by decide +kernel) rfl
theorem ml_X7_40 : Cond.methodLink RX7 40 yX7_in ∈ TB := tb_in 683 (by decide +kernel) rfl
theorem ml_X7_44 : Cond.methodLink RX7 44 yX7_least ∈ TB := tb_in 686 (by decide +kernel) rfl
theorem ml_X7_48 : Cond.methodLink RX7 48 yX7_most ∈ TB := tb_in 689 (by decide +kernel) rfl
theorem ml_X7_51 : Cond.methodLink RX7 51 yX7_record ∈ TB := tb_in 692 (by decide +kernel) rfl
theorem ml_L_22 : Cond.methodLink RL 22 yX7_line ∈ TB := tb_in 696 (by decide +kernel) rfl
theorem ml_X7_54 : Cond.methodLink RX7 54 yX7_areSizes ∈ TB := tb_in 700 (by decide +kernel) rfl
theorem ml_L_27 : Cond.methodLink RL 27 yX7_timer ∈ TB := tb_in 703 (by decide +kernel) rfl
theorem ml_X7_57 : Cond.methodLink RX7 57 yX7_isLine ∈ TB := tb_in 707 (by decide +kernel) rfl
theorem ml_X7_61 : Cond.methodLink RX7 61 yX7_of ∈ TB := tb_in 711 (by decide +kernel) rfl
theorem ml_L_32 : Cond.methodLink RL 32 yX7_stop ∈ TB := tb_in 715 (by decide +kernel) rfl
theorem ml_L_36 : Cond.methodLink RL 36 yX7_raise ∈ TB := tb_in 719 (by decide +kernel) rfl
theorem ml_X7_76 : Cond.methodLink RX7 76 yX7_edge ∈ TB := tb_in 723 (by decide +kernel) rfl
theorem ml_X7_65 : Cond.methodLink RX7 65 yX7_book ∈ TB := tb_in 727 (by decide +kernel) rfl
theorem ml_X7_69 : Cond.methodLink RX7 69 yX7_waits ∈ TB := tb_in 731 (by decide +kernel) rfl
theorem ml_X7_72 : Cond.methodLink RX7 72 yX7_turn ∈ TB := tb_in 735 (by decide +kernel) rfl
theorem ml_L_40 : Cond.methodLink RL 40 yX7_hold ∈ TB := tb_in 739 (by decide +kernel) rfl
theorem ml_X7_82 : Cond.methodLink RX7 82 yX7_look ∈ TB := tb_in 743 (by decide +kernel) rfl
theorem ml_X7_79 : Cond.methodLink RX7 79 yX7_placeOf ∈ TB := tb_in 747 (by decide +kernel) rfl
theorem ml_L_44 : Cond.methodLink RL 44 yX7_mask ∈ TB := tb_in 751 (by decide +kernel) rfl
theorem ml_L_48 : Cond.methodLink RL 48 yX7_change ∈ TB := tb_in 755 (by decide +kernel) rfl
theorem ml_L_52 : Cond.methodLink RL 52 yX7_ticks ∈ TB := tb_in 759 (by decide +kernel) rfl
theorem ml_X7_99 : Cond.methodLink RX7 99 yX7_pass ∈ TB := tb_in 763 (by decide +kernel) rfl
theorem ml_X7_89 : Cond.methodLink RX7 89 yX7_found ∈ TB := tb_in 767 (by decide +kernel) rfl
theorem ml_X7_86 : Cond.methodLink RX7 86 yX7_present ∈ TB := tb_in 771 (by decide +kernel) rfl
theorem ml_X7_93 : Cond.methodLink RX7 93 yX7_begin ∈ TB := tb_in 775 (by decide +kernel) rfl
theorem ml_X7_96 : Cond.methodLink RX7 96 yX7_end ∈ TB := tb_in 779 (by decide +kernel) rfl
theorem ml_L_56 : Cond.methodLink RL 56 yX7_ofLine ∈ TB := tb_in 783 (by decide +kernel) rfl
theorem ml_L_60 : Cond.methodLink RL 60 yX7_ofNest ∈ TB := tb_in 787 (by decide +kernel) rfl
theorem ml_L_64 : Cond.methodLink RL 64 yX7_ofTimer ∈ TB := tb_in 791 (by decide +kernel) rfl
theorem ml_L_68 : Cond.methodLink RL 68 yX7_count ∈ TB := tb_in 795 (by decide +kernel) rfl
theorem ml_X7_102 : Cond.methodLink RX7 102 yX7_waiting ∈ TB := tb_in 799 (by decide +kernel) rfl
theorem ml_X7_105 : Cond.methodLink RX7 105 yX7_misses ∈ TB := tb_in 803 (by decide +kernel) rfl
theorem ml_L_72 : Cond.methodLink RL 72 yX7_beginsIn ∈ TB := tb_in 807 (by decide +kernel) rfl
theorem ml_X7_111 : Cond.methodLink RX7 111 yX7_keep ∈ TB := tb_in 811 (by decide +kernel) rfl
theorem ml_X7_114 : Cond.methodLink RX7 114 yX7_beginsWithin ∈ TB := tb_in 815 (by decide +kernel) rfl
theorem ml_X7_117 : Cond.methodLink RX7 117 yX7_comeBack ∈ TB := tb_in 819 (by decide +kernel) rfl
theorem ml_L_77 : Cond.methodLink RL 77 yX7_idleIn ∈ TB := tb_in 823 (by decide +kernel) rfl
theorem ml_L_81 : Cond.methodLink RL 81 yX7_missesIn ∈ TB := tb_in 827 (by decide +kernel) rfl
theorem ml_L_85 : Cond.methodLink RL 85 yX7_greatestBar ∈ TB := tb_in 831 (by decide +kernel) rfl
theorem ml_L_89 : Cond.methodLink RL 89 yX7_bound ∈ TB := tb_in 835 (by decide +kernel) rfl
theorem ml_X7_120 : Cond.methodLink RX7 120 yX7_costOf ∈ TB := tb_in 839 (by decide +kernel) rfl
theorem ml_L_93 : Cond.methodLink RL 93 yX7_load ∈ TB := tb_in 843 (by decide +kernel) rfl
theorem ml_L_100 : Cond.methodLink RL 100 yX7_put ∈ TB := tb_in 847 (by decide +kernel) rfl
theorem ml_L_104 : Cond.methodLink RL 104 yX7_wipe ∈ TB := tb_in 852 (by decide +kernel) rfl
theorem ml_L_108 : Cond.methodLink RL 108 yX7_fault ∈ TB := tb_in 856 (by decide +kernel) rfl
theorem ml_X7_146 : Cond.methodLink RX7 146 yX7_faultOf ∈ TB := tb_in 860 (by decide +kernel) rfl
theorem ml_X7_141 : Cond.methodLink RX7 141 yX7_readOne ∈ TB := tb_in 864 (by decide +kernel) rfl
theorem ml_X7_126 : Cond.methodLink RX7 126 yX7_sign ∈ TB := tb_in 868 (by decide +kernel) rfl
theorem ml_X7_138 : Cond.methodLink RX7 138 yX7_number ∈ TB := tb_in 872 (by decide +kernel) rfl
theorem ml_X7_132 : Cond.methodLink RX7 132 yX7_one ∈ TB := tb_in 876 (by decide +kernel) rfl
theorem ml_L_112 : Cond.methodLink RL 112 yX7_carryOut ∈ TB := tb_in 880 (by decide +kernel) rfl
theorem ml_X7_162 : Cond.methodLink RX7 162 yX7_carry ∈ TB := tb_in 884 (by decide +kernel) rfl
theorem ml_X7_149 : Cond.methodLink RX7 149 yX7_raise ∈ TB := tb_in 888 (by decide +kernel) rfl
theorem ml_X7_152 : Cond.methodLink RX7 152 yX7_hold ∈ TB := tb_in 889 (by decide +kernel) rfl
theorem ml_X7_156 : Cond.methodLink RX7 156 yX7_mask ∈ TB := tb_in 890 (by decide +kernel) rfl
theorem ml_X7_159 : Cond.methodLink RX7 159 yX7_ticks ∈ TB := tb_in 891 (by decide +kernel) rfl
theorem ml_L_116 : Cond.methodLink RL 116 yX7_undo ∈ TB := tb_in 892 (by decide +kernel) rfl
theorem ml_L_120 : Cond.methodLink RL 120 yX7_save ∈ TB := tb_in 896 (by decide +kernel) rfl
theorem ml_L_124 : Cond.methodLink RL 124 yX7_restore ∈ TB := tb_in 900 (by decide +kernel) rfl
end
section
/-! The heap of both sides as numbers. Cell (r, p): r < 11 a server's row (0 the server, 1 the trial, 2 3 the slots, 4 .. 10 the history), r = 11 the rest of the class, r = 12 its static arrays, r = 13 the reference. Slot k of a cell holds a number μ r p k, or a reference that never changes (rf). -/
abbrev Mu : Type := Nat → Nat → Nat → Int32
abbrev Sv : Type := Nat → Nat → Int32
def us (S : Sv) (p k : Nat) (v : Int32) : Sv := fun p' k' => if p' = p ∧ k' = k then v else S p' k'
def fo (μ : Mu) (r : Nat) (S : Sv) : Mu := fun r' => if r' = r then S else μ r'
theorem fo_self (μ : Mu) (r : Nat) : fo μ r (μ r) = μ := by
  funext r'
  unfold fo
  split
  · next h => rw [h]
  · rfl
theorem fo_at (μ : Mu) (r : Nat) (S : Sv) : fo μ r S r = S := if_pos rfl
theorem fo_ne (μ : Mu) {r r' : Nat} (S : Sv) (h : r' ≠ r) : fo μ r S r' = μ r' := if_neg h
theorem fo_fo (μ : Mu) (r : Nat) (S T : Sv) : fo (fo μ r S) r T = fo μ r T := by
  funext r'
  unfold fo
  split <;> rfl
theorem fo_comm (μ : Mu) {r q : Nat} (S T : Sv) (h : r ≠ q) : fo (fo μ r S) q T = fo (fo μ q T) r S := by
  funext r'
  unfold fo
  by_cases h1 : r' = q
  · subst h1
    rw [if_pos rfl, if_neg (Ne.symm h), if_pos rfl]
  · rw [if_neg h1]
    split <;> rfl
theorem us_at (S : Sv) (p k : Nat) (v : Int32) : us S p k v p k = v := if_pos ⟨rfl, rfl⟩
theorem us_ne (S : Sv) {p k p' k' : Nat} (v : Int32) (h : ¬ (p' = p ∧ k' = k)) : us S p k v p' k' = S p' k' := if_neg h
/-- what a cell is: below 10 an object of that class of kcl, from 10 on an array (10 int, 11 boolean, 12 char, 13 Line, 14 Timer, 15 Service, 16 Server); how many slots -/
def kd (r p : Nat) : Nat × Nat :=
  if r < 11 then
    (if p = 0 then (3, 11) else if p = 1 then (10, 7) else if p = 2 then (13, 12) else if p < 15 then (1, 16) else if p = 15 then (14, 6) else if p < 22 then (5, 3) else if p = 22 then (15, 8) else (4, 4))
  else if r = 11 then
    (if p = 0 then (6, 6) else if p = 1 then (16, 2) else if p = 2 then (11, 2) else if p = 3 then (0, 3) else if p = 4 then (16, 7) else if p = 5 then (2, 2) else (12, 80))
  else if r = 12 then (10, 7)
  else (if p = 0 then (7, 13) else if p = 1 then (10, 280) else if p = 2 then (10, 280) else if p = 3 then (10, 1680) else if p = 4 then (10, 560) else if p = 5 then (11, 2) else if p = 6 then (10, 80) else (10, 240))
def live (r p : Nat) : Prop := (r < 11 ∧ p < 31) ∨ (r = 11 ∧ p < 7) ∨ (r = 12 ∧ p < 3) ∨ (r = 13 ∧ p < 8)
def ownd (r p : Nat) : Prop := live r p ∧ r ≠ 12
def rf (r p k : Nat) : Option (Nat × Nat) :=
  if r < 11 then
    (if p = 0 then (if k = 1 then some (r, 1) else if k = 2 then some (r, 2) else if k = 4 then some (r, 15) else if k = 6 then some (r, 22) else none)
     else if p = 2 then some (r, 3 + k) else if p = 15 then some (r, 16 + k) else if p = 22 then some (r, 23 + k) else none)
  else if r = 11 then
    (if p = 0 then (if k = 0 then some (0, 0) else if k = 1 then some (1, 0) else if k = 2 then some (11, 1) else if k = 3 then some (11, 2) else if k = 4 then some (11, 3) else some (11, 5))
     else if p = 1 then some (2 + k, 0)
     else if p = 3 then (if k = 0 then some (11, 4) else none)
     else if p = 4 then some (4 + k, 0)
     else if p = 5 then (if k = 0 then some (11, 6) else none) else none)
  else if r = 12 then none
  else if p = 0 then (if k = 0 then some (13, 1) else if k = 1 then some (13, 2) else if k = 2 then some (13, 3) else if k = 4 then some (13, 4) else if k = 5 then some (13, 5) else if k = 6 then some (13, 6) else if k = 9 then some (13, 7) else none) else none
/-- the numbers of the tables, the arrays' classes, the addresses -/
abbrev mE : Type := va_G × (Nat → ClassId) × (Nat → Nat → Nat)
def ea (E : mE) (r p : Nat) : Nat := E.2.2 r p
def sl (E : mE) (μ : Mu) (r p k : Nat) : Value := match rf r p k with
  | some q => .ref (ea E q.1 q.2)
  | none => .int (μ r p k)
theorem sl_i {E : mE} {μ : Mu} {r p k : Nat} (h : rf r p k = none) : sl E μ r p k = .int (μ r p k) := by unfold sl; rw [h]
theorem sl_r {E : mE} {μ : Mu} {r p k r' p' : Nat} (h : rf r p k = some (r', p')) : sl E μ r p k = .ref (ea E r' p') := by unfold sl; rw [h]
/-- an array's cell: of the class's static arrays (region 12) the monitor, the hash and the mark of the machine's are not told -/
def arA (r : Nat) (x : Option Cell) (cA : ClassId) (n : Nat) (f : Nat → Value) : Prop :=
  if r = 12 then ∃ cell : Cell, x = some cell ∧ cell.cls = cA ∧ cell.slots = (arrV cA n f).slots ∧ (∀ k, cell.vm ≠ .statics k) ∧ cell.vm ≠ .unknown else x = some (arrV cA n f)
theorem arA.eq {r : Nat} {x : Option Cell} {cA : ClassId} {n : Nat} {f : Nat → Value} (h : arA r x cA n f) (hr : r ≠ 12) : x = some (arrV cA n f) := by
  unfold arA at h
  rw [if_neg hr] at h
  exact h
theorem arA.of {r : Nat} {x : Option Cell} {cA : ClassId} {n : Nat} {f : Nat → Value} (h : x = some (arrV cA n f)) : arA r x cA n f := by
  unfold arA
  split
  · exact ⟨_, h, rfl, rfl, (fun k z => by cases z), (fun z => by cases z)⟩
  · exact h
theorem arA.ex {r : Nat} {x : Option Cell} {cA : ClassId} {n : Nat} {f : Nat → Value} (h : arA r x cA n f) : ∃ cell : Cell, x = some cell ∧ cell.cls = cA ∧ cell.slots = (arrV cA n f).slots ∧ (∀ k, cell.vm ≠ .statics k) ∧ cell.vm ≠ .unknown := by
  unfold arA at h
  split at h
  · exact h
  · exact ⟨_, h, rfl, rfl, (fun k z => by cases z), (fun z => by cases z)⟩
def cellAt (E : mE) (μ : Mu) (H : Heap) (r p : Nat) : Prop :=
  if (kd r p).1 < 10 then ∃ q : vw_C, kcl[(kd r p).1]? = some q ∧ t_OB (ea E r p) (E.1.1 (kd r p).1) q.2.2 (E.1.2 (kd r p).1) H (sl E μ r p)
  else arA r (H[ea E r p]?) (E.2.1 ((kd r p).1 - 10)) (kd r p).2 (sl E μ r p)
def MB (E : mE) (μ : Mu) (H : Heap) : Prop := ∀ r p, live r p → cellAt E μ H r p
def tyL (E : mE) : List (ClassId × FieldType) := [(E.2.1 0, .int), (E.2.1 1, .boolean), (E.2.1 2, .char), (E.2.1 3, .object RX1), (E.2.1 4, .object RX5), (E.2.1 5, .object RX4), (E.2.1 6, .object RX3)]
def AA (E : mE) : Nat → Prop := fun q => ∃ r p, ownd r p ∧ q = ea E r p
def Inj (E : mE) : Prop := ∀ r p r' p', live r p → live r' p' → ea E r p = ea E r' p' → r = r' ∧ p = p'
/-- the words that another row of the kit moves -/
def nwF : List (String × Nat × String × String × String × String) := [(RX3, 9, "InterruptInn", "FIRST_VALUES", "[I", "InterruptInn"), (RX3, 86, "InterruptInn", "LEAST_VALUES", "[I", "InterruptInn"), (RX3, 89, "InterruptInn", "MOST_VALUES", "[I", "InterruptInn")]
def nwM : List (String × Nat × MethodName × String) := [(RX3, 29, yX1_init, "InterruptInn"), (RX3, 36, yX5_init, "InterruptInn"), (RX3, 43, yX4_init, "InterruptInn"), (RX3, 82, yX6_within, "InterruptInn"), (RX3, 220, yX6_dividedUp, "InterruptInn"), (RX2, 25, yX6_within, "InterruptInn")]
def St0 (D : va_G) (cA : Nat → ClassId) (U : State) : Prop := va_K D kcl (tyL (D, cA, fun _ _ => 0)) U ∧ (∀ q ∈ nwF, va_Nw (.fieldLinkNest q.1 q.2.1 q.2.2.1 q.2.2.2.1 q.2.2.2.2.1 q.2.2.2.2.2) U) ∧ (∀ q ∈ nwM, va_Nw (.methodLinkNest q.1 q.2.1 q.2.2.1 q.2.2.2) U) ∧ (∀ C ∈ [RX1, RX5, RX4, RX3], va_AO C U) ∧ va_Nw (.castable "[I" "java/lang/Cloneable") U
def Zs (a0 a1 a2 : Nat) (A : Nat → Prop) (U : State) (H : Heap) : Prop := va_Z "InterruptInn" "FIRST_VALUES" "[I" (.ref a0) A U H ∧ va_Z "InterruptInn" "LEAST_VALUES" "[I" (.ref a1) A U H ∧ va_Z "InterruptInn" "MOST_VALUES" "[I" (.ref a2) A U H
/-- what a method is given of the tables and of the addresses -/
def Stat (E : mE) (U : State) : Prop := St0 E.1 E.2.1 U ∧ Inj E ∧ Zs (ea E 12 0) (ea E 12 1) (ea E 12 2) (AA E) U U.heap
theorem Stat.K {E : mE} {U : State} (h : Stat E U) : va_K E.1 kcl (tyL E) U := h.1.1
theorem St0.moved {D : va_G} {cA : Nat → ClassId} {s U : State} (hW : s.WarmedH U.vm) (h : St0 D cA s) : St0 D cA U := by
  obtain ⟨h1, h2, h3, h4, h5⟩ := h
  exact ⟨h1.moved hW.alike, fun q hq => (h2 q hq).warmF hW, fun q hq => (h3 q hq).warmM hW, fun C hC => (h4 C hC).moved hW.alike, h5.warmC hW⟩
theorem va_AO.same0 {C : String} {u U : State} (h : u.vm = U.vm) (hZ : va_AO C u) : va_AO C U := va_AO.moved (by rw [h]; exact Vm.Alike.refl _) hZ
theorem St0.same {D : va_G} {cA : Nat → ClassId} {s U : State} (h : s.vm = U.vm) (hS : St0 D cA s) : St0 D cA U := by
  obtain ⟨h1, h2, h3, h4, h5⟩ := hS
  have ha : s.vm.Alike U.vm := by rw [h]; exact Vm.Alike.refl _
  exact ⟨h1.moved ha, fun q hq => (h2 q hq).same rfl h, fun q hq => (h3 q hq).same rfl h, fun C hC => (h4 C hC).moved ha, h5.same rfl h⟩
theorem Zs.kept {a0 a1 a2 : Nat} {A : Nat → Prop} {s U : State} {H H1 : Heap} (hvm : s.vm.Alike U.vm) (hq : ∀ a : Nat, a < H.size → ¬ A a → H1[a]? = H[a]?) (h : Zs a0 a1 a2 A s H) : Zs a0 a1 a2 A U H1 :=
  ⟨(h.1.kept hq).moved hvm, (h.2.1.kept hq).moved hvm, (h.2.2.kept hq).moved hvm⟩
theorem Stat.moved {E : mE} {s U : State} {H : Heap} {locs : List Loc} (hW : s.WarmedH U.vm) (hS : va_S (AA E) s.heap H locs) (hU : U.heap = H) (h : Stat E s) : Stat E U := by
  obtain ⟨h1, h2, h3⟩ := h
  refine ⟨h1.moved hW, h2, ?_⟩
  rw [hU]
  exact Zs.kept hW.alike (fun a g1 g2 => hS.2.1 a g1 g2) h3
theorem Stat.same {E : mE} {s U : State} (hv : s.vm = U.vm) (hh : s.heap = U.heap) (h : Stat E s) : Stat E U := by
  obtain ⟨h1, h2, h3⟩ := h
  refine ⟨h1.same hv, h2, ?_⟩
  rw [← hh]
  exact Zs.kept (by rw [hv]; exact Vm.Alike.refl _) (fun a _ _ => rfl) h3
/-- the world in a method: the heap holds μ; what is not its own stays -/
def Wd (E : mE) (s : State) (H : Heap) (locs : List Loc) (μ : Mu) : Prop := MB E μ H ∧ va_S (AA E) s.heap H locs
theorem Wd.to {E : mE} {s : State} {H : Heap} {locs : List Loc} {μ μ' : Mu} (h : Wd E s H locs μ) (e : μ = μ') : Wd E s H locs μ' := e ▸ h
theorem Wd.foc {E : mE} {s : State} {H : Heap} {locs : List Loc} {μ : Mu} (h : Wd E s H locs μ) (r : Nat) : Wd E s H locs (fo μ r (μ r)) := by rw [fo_self]; exact h
def isO (r p ci N : Nat) : Prop := live r p ∧ kd r p = (ci, N)
theorem isO.cell {E : mE} {μ : Mu} {H : Heap} {r p ci N : Nat} (h : isO r p ci N) (hc : ci < 10) (hM : MB E μ H) : ∃ q : vw_C, kcl[ci]? = some q ∧ t_OB (ea E r p) (E.1.1 ci) q.2.2 (E.1.2 ci) H (sl E μ r p) := by
  have h1 := hM r p h.1
  unfold cellAt at h1
  rw [h.2] at h1
  rw [if_pos hc] at h1
  exact h1
theorem isO.arA {E : mE} {μ : Mu} {H : Heap} {r p t n : Nat} (h : isO r p (10 + t) n) (hM : MB E μ H) : arA r (H[ea E r p]?) (E.2.1 t) n (sl E μ r p) := by
  have h1 := hM r p h.1
  unfold cellAt at h1
  rw [h.2] at h1
  rw [if_neg (by show ¬ 10 + t < 10; omega), show ((10 + t, n) : Nat × Nat).1 - 10 = t by show 10 + t - 10 = t; omega] at h1
  exact h1
theorem isO.arr {E : mE} {μ : Mu} {H : Heap} {r p t n : Nat} (h : isO r p (10 + t) n) (hr : r ≠ 12) (hM : MB E μ H) : H[ea E r p]? = some (arrV (E.2.1 t) n (sl E μ r p)) := (h.arA hM).eq hr
/-- a store of one number: all other cells stay -/
theorem MB.set {E : mE} {μ : Mu} {S : Sv} {H H1 : Heap} {r p k : Nat} {v : Int32} (hM : MB E (fo μ r S) H) (hI : Inj E) (hl : live r p) (hc : cellAt E (fo μ r (us S p k v)) H1 r p) (oq : ∀ q : Nat, q ≠ ea E r p → H1[q]? = H[q]?) : MB E (fo μ r (us S p k v)) H1 := by
  intro r' p' hl'
  by_cases he : r' = r ∧ p' = p
  · obtain ⟨rfl, rfl⟩ := he
    exact hc
  · have hne : ea E r' p' ≠ ea E r p := fun e => he (hI _ _ _ _ hl' hl e)
    have h0 := hM r' p' hl'
    have hs : ∀ k', sl E (fo μ r (us S p k v)) r' p' k' = sl E (fo μ r S) r' p' k' := by
      intro k'
      unfold sl
      split
      · rfl
      · congr 1
        unfold fo
        split
        · next h2 => exact us_ne _ _ (fun z => he ⟨h2, z.1⟩)
        · rfl
    have hs2 : sl E (fo μ r (us S p k v)) r' p' = sl E (fo μ r S) r' p' := funext hs
    unfold cellAt at h0 ⊢
    rw [hs2]
    split
    · next h2 =>
      rw [if_pos h2] at h0
      obtain ⟨q, g1, g2⟩ := h0
      exact ⟨q, g1, g2.kept (oq _ hne)⟩
    · next h2 =>
      rw [if_neg h2] at h0
      rw [oq _ hne]
      exact h0
theorem ArrOf_t {E : mE} {s : State} (h : Stat E s) (t : Nat) {ty : FieldType} (ht : (tyL E)[t]? = some (E.2.1 t, ty)) (n : Nat) (f : Nat → Value) : s.isArrayOf (arrV (E.2.1 t) n f) ty := (h.K.2 t _ ht).1 n f
section ROWS
variable {p : Program} {l : Launch} {e : Env} {R : Room} {s : State} {m : MethodId} {args : Array Value} {below : List Frame} {meth : Method} {c : Code} {H : Heap} {locs : List Loc} {cells slots : Nat} {Q : State → Prop}
variable {cc : ByteArray} {nL pc : Nat} {ls : Array Slot} {rest : List Value} {own : String} {E : mE} {μ : Mu} {S : Sv}
theorem jget {index r q k ci N : Nat} (F : CallFix p m c cc nL s args TB own) (hT : Stat E s) (hW : Wd E s H locs (fo μ r S)) (hf : FW own index ci k) (hO : isO r q ci N) (hc : ci < 10) (hn : rf r q k = none) (hdg : decode cc pc = .ok (.getfield index, 3))
    (kk : W p l e R s m args below meth c H locs cells slots Q (F0 m (pc + 3) ls (.int (S q k) :: rest))) : W p l e R s m args below meth c H locs cells slots Q (F0 m pc ls (.ref (ea E r q) :: rest)) := by
  obtain ⟨⟨C, T, N'⟩, hc1, hk1, hl, hin, hsm⟩ := hf
  obtain ⟨q', hq1, hob⟩ := hO.cell hc hW.1
  obtain rfl : q' = (C, T, N') := Option.some.inj (hq1.symm.trans hc1)
  dsimp only at hk1 hl hin hsm hob
  refine va_get (D := E.1) (cl := kcl) (ws := [(ea E r q, .inr (ci, (List.range N').map (sl E (fo μ r S) r q)))]) F.1 F.2.1 F.2.2.2.2 hin F.2.2.2.1 hT.K (fun j x hx => ?_) 0 rfl hc1 k hk1 (F.2.2.2.2 _ hl) (fun x hx => by rw [hsm] at hx; exact hx) (v := .int (S q k)) ?_ hdg kk
  · have hz : j < 1 := (List.getElem?_eq_some_iff.mp hx).1
    rw [show j = 0 by omega] at hx
    cases hx
    exact ⟨_, hc1, hob.to (fun j hj => by simp [vp_V, hj])⟩
  · simp [hk1, sl_i hn, fo_at]
theorem jgetR (F : CallFix p m c cc nL s args TB own) (hT : Stat E s) (hW : Wd E s H locs μ) {index r q k ci N r' q' : Nat} (hf : FW own index ci k) (hO : isO r q ci N) (hc : ci < 10) (hn : rf r q k = some (r', q')) (hdg : decode cc pc = .ok (.getfield index, 3))
    (kk : W p l e R s m args below meth c H locs cells slots Q (F0 m (pc + 3) ls (.ref (ea E r' q') :: rest))) : W p l e R s m args below meth c H locs cells slots Q (F0 m pc ls (.ref (ea E r q) :: rest)) := by
  obtain ⟨⟨C, T, N'⟩, hc1, hk1, hl, hin, hsm⟩ := hf
  obtain ⟨q2, hq1, hob⟩ := hO.cell hc hW.1
  obtain rfl : q2 = (C, T, N') := Option.some.inj (hq1.symm.trans hc1)
  dsimp only at hk1 hl hin hsm hob
  refine va_get (D := E.1) (cl := kcl) (ws := [(ea E r q, .inr (ci, (List.range N').map (sl E μ r q)))]) F.1 F.2.1 F.2.2.2.2 hin F.2.2.2.1 hT.K (fun j x hx => ?_) 0 rfl hc1 k hk1 (F.2.2.2.2 _ hl) (fun x hx => by rw [hsm] at hx; exact hx) (v := .ref (ea E r' q')) ?_ hdg kk
  · have hz : j < 1 := (List.getElem?_eq_some_iff.mp hx).1
    rw [show j = 0 by omega] at hx
    cases hx
    exact ⟨_, hc1, hob.to (fun j hj => by simp [vp_V, hj])⟩
  · simp [hk1, sl_r hn]
theorem jput {index r q k ci N : Nat} (F : CallFix p m c cc nL s args TB own) (hT : Stat E s) (hW : Wd E s H locs (fo μ r S)) {ty : FieldType} {v : Int32} (hf : FW own index ci k) (ht : FT ci k ty false) (hO : isO r q ci N) (hc : ci < 10) (hr : r ≠ 12) (hn : rf r q k = none) (hna : narrow ty (.int v) = .int v) (hfi : fits ty (.int v) = true) (hdg : decode cc pc = .ok (.putfield index, 3))
    (kk : ∀ (S' : Sv) (H : Heap) (locs : List Loc), S' = us S q k v → Wd E s H locs (fo μ r S') → W p l e R s m args below meth c H locs cells slots Q (F0 m (pc + 3) ls rest)) : W p l e R s m args below meth c H locs cells slots Q (F0 m pc ls (.int v :: .ref (ea E r q) :: rest)) := by
  obtain ⟨⟨C, T, N'⟩, hc1, hk1, hl, hin, hsm⟩ := hf
  obtain ⟨⟨C2, T2, N2⟩, ty0, hc2, hty, hnm, hte, hfin⟩ := ht
  cases Option.some.inj (hc1.symm.trans hc2)
  obtain ⟨q', hq1, hob⟩ := hO.cell hc hW.1
  obtain rfl : q' = (C, T, N') := Option.some.inj (hq1.symm.trans hc1)
  dsimp only at hk1 hl hin hsm hob hty hnm hte hfin
  have hts := F.2.2.2.2
  have hap := va_apart (own := own) hts hin ty0 hty hnm hT.K hc1
  obtain ⟨cell, q1, q2, q3, q4⟩ := hob
  obtain ⟨hS, hfc, kC, hkC, hkind⟩ := hT.K.1 ci _ hc1
  obtain ⟨cf, kf, fi, f, hi, hsl⟩ := hS k hk1
  have hlay := hts _ (hin _ (u_in_lay hk1))
  unfold u_lay at hlay
  rw [if_neg (by rw [hfin]; decide)] at hlay
  have hst := (u_facts hfc hkC (u_lays hts hin hk1) hi).1
  have h6 := u_store hfc hkC hkind hlay hi (by rw [hty k hk1, hte]) hna hfi
  have hi2 : s.fieldFound? C (T k).2.1 (T k).2.2.1 = some (cf, kf, fi, f) := by rw [hsm] at hi; exact hi
  refine W.putK F.1 F.2.1 (f := f) ⟨F.2.2.2.1, hts _ hl, ⟨_, _, _, hi2⟩, hst⟩ (by rw [q2]; exact h6) q1 q3 (by rw [hsl]; exact k2_hasslot (q4 k hk1)) rfl rfl hdg fun H' e1 e2 e3 => ?_
  rw [hsl] at e1 ⊢
  have hown : AA E (ea E r q) := ⟨r, q, ⟨hO.1, hr⟩, rfl⟩
  refine kk _ H' _ rfl ⟨hW.1.set hT.2.1 hO.1 ?_ e3, hW.2.put e2 e3 hown⟩
  unfold cellAt
  rw [hO.2, if_pos hc]
  refine ⟨_, hc1, t_OB.to (V := updV (sl E (fo μ r S) r q) k (.int v)) ⟨_, e1, q2, q3, t_set q4 hap hk1 _⟩ (fun j hj => ?_)⟩
  by_cases hjk : j = k
  · subst hjk
    rw [sl_i hn, fo_at, us_at]
    simp [updV]
  · simp only [updV, if_neg hjk]
    unfold sl
    split
    · rfl
    · rw [fo_at, fo_at, us_ne _ _ (fun z => hjk z.2)]
/-! arrays -/
theorem jarr {E : mE} {t n j : Nat} {x : Int32} (hj : j < n) (hn : n < 2 ^ 31) (hx : x = nI j) {f : Nat → Value} : ¬ (x < 0 ∨ (arrV (E.2.1 t) n f).slots.size ≤ x.toNatClampNeg) ∧ (arrV (E.2.1 t) n f).slots[x.toNatClampNeg]? = some (f j) := by
  subst hx
  rw [arrV_size]
  refine ⟨nI_in hj hn, ?_⟩
  rw [nI_clamp (Nat.lt_trans hj hn)]
  exact arrV_read _ _ hj
theorem jiald {r q n : Nat} (F : CallFix p m c cc nL s args TB own) (hT : Stat E s) (hW : Wd E s H locs (fo μ r S)) {x : Int32} (j : Nat) (hO : isO r q 10 n) (hj : j < n) (hn : n < 2 ^ 31) (hx : x = nI j) (hr : rf r q j = none) (hdg : decode cc pc = .ok (.iaload, 1))
    (kk : W p l e R s m args below meth c H locs cells slots Q (F0 m (pc + 1) ls (.int (S q j) :: rest))) : W p l e R s m args below meth c H locs cells slots Q (F0 m pc ls (.int x :: .ref (ea E r q) :: rest)) := by
  obtain ⟨h1, h2⟩ := jarr (E := E) (t := 0) (f := sl E (fo μ r S) r q) hj hn hx
  obtain ⟨cell, c1, c2, c3, c4, c5⟩ := (isO.arA (t := 0) hO hW.1).ex
  exact W.iald (v := .int (S q j)) F.1 F.2.1 c1 ⟨c4, by rw [c2]; exact (ArrOf_t hT 0 rfl n (sl E (fo μ r S) r q)).2⟩ c5 (by rw [c3]; exact h1) (by rw [c3, h2, sl_i hr, fo_at]) rfl rfl hdg kk
theorem jzald {r q n : Nat} (F : CallFix p m c cc nL s args TB own) (hT : Stat E s) (hW : Wd E s H locs (fo μ r S)) {x : Int32} (j : Nat) (hO : isO r q 11 n) (hj : j < n) (hn : n < 2 ^ 31) (hx : x = nI j) (hr : rf r q j = none) (hdg : decode cc pc = .ok (.baload, 1))
    (kk : W p l e R s m args below meth c H locs cells slots Q (F0 m (pc + 1) ls (.int (S q j) :: rest))) : W p l e R s m args below meth c H locs cells slots Q (F0 m pc ls (.int x :: .ref (ea E r q) :: rest)) := by
  obtain ⟨h1, h2⟩ := jarr (E := E) (t := 1) (f := sl E (fo μ r S) r q) hj hn hx
  obtain ⟨cell, c1, c2, c3, c4, c5⟩ := (isO.arA (t := 1) hO hW.1).ex
  exact W.zald (v := .int (S q j)) F.1 F.2.1 c1 ⟨c4, by rw [c2]; exact (ArrOf_t hT 1 rfl n (sl E (fo μ r S) r q)).2⟩ c5 (by rw [c3]; exact h1) (by rw [c3, h2, sl_i hr, fo_at]) rfl rfl hdg kk
theorem jcald {r q n : Nat} (F : CallFix p m c cc nL s args TB own) (hT : Stat E s) (hW : Wd E s H locs (fo μ r S)) {x : Int32} (j : Nat) (hO : isO r q 12 n) (hj : j < n) (hn : n < 2 ^ 31) (hx : x = nI j) (hr : rf r q j = none) (hdg : decode cc pc = .ok (.caload, 1))
    (kk : W p l e R s m args below meth c H locs cells slots Q (F0 m (pc + 1) ls (.int (S q j) :: rest))) : W p l e R s m args below meth c H locs cells slots Q (F0 m pc ls (.int x :: .ref (ea E r q) :: rest)) := by
  obtain ⟨h1, h2⟩ := jarr (E := E) (t := 2) (f := sl E (fo μ r S) r q) hj hn hx
  obtain ⟨cell, c1, c2, c3, c4, c5⟩ := (isO.arA (t := 2) hO hW.1).ex
  exact W.cald (v := .int (S q j)) F.1 F.2.1 c1 ⟨c4, by rw [c2]; exact (ArrOf_t hT 2 rfl n (sl E (fo μ r S) r q)).2⟩ c5 (by rw [c3]; exact h1) (by rw [c3, h2, sl_i hr, fo_at]) rfl rfl hdg kk
theorem jaald (F : CallFix p m c cc nL s args TB own) (hT : Stat E s) (hW : Wd E s H locs μ) {r q n t r' q' : Nat} {C : String} {x : Int32} (j : Nat) (hO : isO r q (10 + t) n) (ht : (tyL E)[t]? = some (E.2.1 t, .object C)) (hj : j < n) (hn : n < 2 ^ 31) (hx : x = nI j) (hr : rf r q j = some (r', q')) (hdg : decode cc pc = .ok (.aaload, 1))
    (kk : W p l e R s m args below meth c H locs cells slots Q (F0 m (pc + 1) ls (.ref (ea E r' q') :: rest))) : W p l e R s m args below meth c H locs cells slots Q (F0 m pc ls (.int x :: .ref (ea E r q) :: rest)) := by
  obtain ⟨h1, h2⟩ := jarr (E := E) (t := t) (f := sl E μ r q) hj hn hx
  obtain ⟨cell, c1, c2, c3, c4, c5⟩ := (isO.arA hO hW.1).ex
  exact W.aald (v := .ref (ea E r' q')) (ty := .object C) F.1 F.2.1 c1 ⟨c4, by rw [c2]; exact (ArrOf_t hT t ht n (sl E μ r q)).2⟩ rfl c5 (by rw [c3]; exact h1) (by rw [c3, h2, sl_r hr]) rfl rfl hdg kk
theorem jalen (F : CallFix p m c cc nL s args TB own) (hT : Stat E s) (hW : Wd E s H locs μ) {r q n t : Nat} {ty : FieldType} {x : Int32} (hO : isO r q (10 + t) n) (ht : (tyL E)[t]? = some (E.2.1 t, ty)) (hx : nI n = x) (hdg : decode cc pc = .ok (.arraylength, 1))
    (kk : W p l e R s m args below meth c H locs cells slots Q (F0 m (pc + 1) ls (.int x :: rest))) : W p l e R s m args below meth c H locs cells slots Q (F0 m pc ls (.ref (ea E r q) :: rest)) := by
  subst hx
  obtain ⟨cell, c1, c2, c3, c4, c5⟩ := (isO.arA hO hW.1).ex
  exact W.alen (n := nI n) F.1 F.2.1 c1 ⟨c4, by rw [c2]; exact (ArrOf_t hT t ht n (sl E μ r q)).2⟩ (by rw [c3, arrV_size] <;> rfl) rfl rfl hdg kk
theorem jcst {E : mE} {μ : Mu} {S : Sv} {r q j t n : Nat} {H' H : Heap} {v : Int32} (hO : isO r q (10 + t) n) (hr : rf r q j = none) (hj : j < 2 ^ 31) (e1 : H'[ea E r q]? = some ((arrV (E.2.1 t) n (sl E (fo μ r S) r q)).setSlot (nI j).toNatClampNeg (.int v))) : cellAt E (fo μ r (us S q j v)) H' r q := by
  unfold cellAt
  rw [hO.2, if_neg (by show ¬ 10 + t < 10; omega), show ((10 + t, n) : Nat × Nat).1 - 10 = t by show 10 + t - 10 = t; omega]
  refine arA.of ?_
  rw [e1, arrV_store, nI_clamp hj]
  congr 2
  funext z
  by_cases hz : z = j
  · subst hz
    rw [sl_i hr, fo_at, us_at]
    simp [updV]
  · simp only [updV, if_neg hz]
    unfold sl
    split
    · rfl
    · rw [fo_at, fo_at, us_ne _ _ (fun w => hz w.2)]
theorem jiast {r q n : Nat} (F : CallFix p m c cc nL s args TB own) (hT : Stat E s) (hW : Wd E s H locs (fo μ r S)) {x v : Int32} (j : Nat) (hO : isO r q 10 n) (hr2 : r ≠ 12) (hj : j < n) (hn : n < 2 ^ 31) (hx : x = nI j) (hr : rf r q j = none) (hdg : decode cc pc = .ok (.iastore, 1))
    (kk : ∀ (S' : Sv) (H : Heap) (locs : List Loc), S' = us S q j v → Wd E s H locs (fo μ r S') → W p l e R s m args below meth c H locs cells slots Q (F0 m (pc + 1) ls rest)) : W p l e R s m args below meth c H locs cells slots Q (F0 m pc ls (.int v :: .int x :: .ref (ea E r q) :: rest)) := by
  obtain ⟨h1, h2⟩ := jarr (E := E) (t := 0) (f := sl E (fo μ r S) r q) hj hn hx
  refine W.iast F.1 F.2.1 (isO.arr (t := 0) hO hr2 hW.1) (ArrOf_t hT 0 rfl _ _) (fun z => by cases z) h1 rfl rfl hdg fun H' e1 e2 e3 => ?_
  subst hx
  exact kk _ H' _ rfl ⟨hW.1.set hT.2.1 hO.1 (jcst (H := H) (t := 0) hO hr (Nat.lt_trans hj hn) e1) e3, hW.2.put e2 e3 ⟨r, q, ⟨hO.1, hr2⟩, rfl⟩⟩
theorem jzast {r q n : Nat} (F : CallFix p m c cc nL s args TB own) (hT : Stat E s) (hW : Wd E s H locs (fo μ r S)) {x v : Int32} (j : Nat) (hO : isO r q 11 n) (hr2 : r ≠ 12) (hj : j < n) (hn : n < 2 ^ 31) (hx : x = nI j) (hr : rf r q j = none) (hna : narrow .boolean (.int v) = .int v) (hdg : decode cc pc = .ok (.bastore, 1))
    (kk : ∀ (S' : Sv) (H : Heap) (locs : List Loc), S' = us S q j v → Wd E s H locs (fo μ r S') → W p l e R s m args below meth c H locs cells slots Q (F0 m (pc + 1) ls rest)) : W p l e R s m args below meth c H locs cells slots Q (F0 m pc ls (.int v :: .int x :: .ref (ea E r q) :: rest)) := by
  obtain ⟨h1, h2⟩ := jarr (E := E) (t := 1) (f := sl E (fo μ r S) r q) hj hn hx
  refine W.zast F.1 F.2.1 (isO.arr (t := 1) hO hr2 hW.1) (ArrOf_t hT 1 rfl _ _) (fun z => by cases z) h1 rfl rfl hdg fun H' e1 e2 e3 => ?_
  subst hx
  rw [hna] at e1
  exact kk _ H' _ rfl ⟨hW.1.set hT.2.1 hO.1 (jcst (H := H) (t := 1) hO hr (Nat.lt_trans hj hn) e1) e3, hW.2.put e2 e3 ⟨r, q, ⟨hO.1, hr2⟩, rfl⟩⟩
theorem jcast {r q n : Nat} (F : CallFix p m c cc nL s args TB own) (hT : Stat E s) (hW : Wd E s H locs (fo μ r S)) {x v : Int32} (j : Nat) (hO : isO r q 12 n) (hr2 : r ≠ 12) (hj : j < n) (hn : n < 2 ^ 31) (hx : x = nI j) (hr : rf r q j = none) (hna : narrow .char (.int v) = .int v) (hdg : decode cc pc = .ok (.castore, 1))
    (kk : ∀ (S' : Sv) (H : Heap) (locs : List Loc), S' = us S q j v → Wd E s H locs (fo μ r S') → W p l e R s m args below meth c H locs cells slots Q (F0 m (pc + 1) ls rest)) : W p l e R s m args below meth c H locs cells slots Q (F0 m pc ls (.int v :: .int x :: .ref (ea E r q) :: rest)) := by
  obtain ⟨h1, h2⟩ := jarr (E := E) (t := 2) (f := sl E (fo μ r S) r q) hj hn hx
  refine W.cast F.1 F.2.1 (isO.arr (t := 2) hO hr2 hW.1) (ArrOf_t hT 2 rfl _ _) (fun z => by cases z) h1 rfl rfl hdg fun H' e1 e2 e3 => ?_
  subst hx
  rw [hna] at e1
  exact kk _ H' _ rfl ⟨hW.1.set hT.2.1 hO.1 (jcst (H := H) (t := 2) hO hr (Nat.lt_trans hj hn) e1) e3, hW.2.put e2 e3 ⟨r, q, ⟨hO.1, hr2⟩, rfl⟩⟩
end ROWS
/-! contracts -/
abbrev rmO (fr lo : Nat) : Room := { frames := fr, cells := 0, slots := 0, locals := lo }
abbrev Pj (E : mE) (av : List Value) (μ : Mu) : Array Value → State → Prop := va_Pc av (fun U => Stat E U ∧ MB E μ U.heap)
/-- a method that answers a number (a boolean) -/
abbrev CtI (l : Launch) (E : mE) (y : MethodName) (cd : ByteArray) (mL : Nat) (rt : Option FieldType) (fr lo : Nat) (av : List Value) (μ : Mu) (post : Int32 → Mu → Prop) : Prop := Met l y (Cond.code y cd mL rt :: TB) (rmO fr lo) (Pj E av μ) (va_Qi post (fun μ' t => MB E μ' t.heap) (AA E)) 0 0 (AA E)
abbrev CtV (l : Launch) (E : mE) (y : MethodName) (cd : ByteArray) (mL : Nat) (fr lo : Nat) (av : List Value) (μ : Mu) (post : Mu → Prop) : Prop := Met l y (Cond.code y cd mL none :: TB) (rmO fr lo) (Pj E av μ) (va_Qv post (fun μ' t => MB E μ' t.heap) (AA E)) 0 0 (AA E)
abbrev CtL (l : Launch) (E : mE) (y : MethodName) (cd : ByteArray) (mL : Nat) (fr lo : Nat) (av : List Value) (μ : Mu) (post : Int64 → Mu → Prop) : Prop := Met l y (Cond.code y cd mL (some .long) :: TB) (rmO fr lo) (Pj E av μ) (va_Ql post (fun μ' t => MB E μ' t.heap) (AA E)) 0 0 (AA E)
theorem Pj_blind {E : mE} {av : List Value} {μ : Mu} : FrameBlind (Pj E av μ) := fun a U g mk q => ⟨q.1, q.2.1.same rfl rfl, q.2.2⟩
/-- a method's walk, from its entry -/
theorem jMet {l : Launch} {E : mE} {y : MethodName} {cd : ByteArray} {mL : Nat} {rt : Option FieldType} {fr lo : Nat} {av : List Value} {μ : Mu} {Qc : Array Value → State → Outcome → State → Prop} (hy : plainName y.cls = true) (hlen : (lg_sl av).length ≤ mL)
    (body : ∀ (p : Program) (e : Env) (s : State) (m : MethodId) (below : List Frame) (meth : Method) (c : Code) (ls : Array Slot), CallFix p m c cd mL s av.toArray TB y.cls → Stat E s → meth.sig.returnType = rt → meth.locks = false → Wd E s s.heap [] μ → lv_has ls mL (lv_args 0 av) → W p l e (rmO fr lo) s m av.toArray below meth c s.heap [] 0 0 (MQ below Qc av.toArray s 0 0 (AA E)) (F0 m 0 ls [])) :
    Met l y (Cond.code y cd mL rt :: TB) (rmO fr lo) (Pj E av μ) Qc 0 0 (AA E) := by
  refine Met.ofW (cc := cd) (maxL := mL) (ret := rt) hy rfl ?_
  intro p e s m args below meth c s₁ B hml hv
  obtain ⟨rfl, hT, hM⟩ := hv
  have hts := atoms_spec (ws := Cond.code y cd mL rt :: TB) B.pre
  rw [lg_entry_eq]
  exact body p e s m below meth c _ ⟨B.exec, B.bytes, hml, findClass_of_methodNamed B.named, fun w hw => hts w (List.mem_cons_of_mem _ hw)⟩ hT B.returns B.notSynchronized ⟨hM, va_S.rf⟩ (lv_entry av hlen)
section ENDS
variable {p : Program} {l : Launch} {e : Env} {R : Room} {s : State} {m : MethodId} {args : Array Value} {below : List Frame} {meth : Method} {c : Code} {H : Heap} {locs : List Loc}
variable {cc : ByteArray} {nL pc : Nat} {ls : Array Slot} {own : String} {E : mE} {μ : Mu}
theorem jri {post : Int32 → Mu → Prop} {x : Int32} {ty : FieldType} (F : CallFix p m c cc nL s args TB own) (hr : meth.sig.returnType = some ty) (hlk : meth.locks = false) (hW : Wd E s H locs μ) (hn : narrow ty (.int x) = .int x) (hdg : decode cc pc = .ok (.ireturn, 1)) (hp : post x μ) :
    W p l e R s m args below meth c H locs 0 0 (MQ below (va_Qi post (fun μ' t => MB E μ' t.heap) (AA E)) args s 0 0 (AA E)) (F0 m pc ls [.int x]) :=
  W.zret F.1 F.2.1 hr hn (fun t ht _ => ⟨⟨x, μ, rfl, hp, (by subst ht; exact hW.1)⟩, hW.2.F ht⟩) hW.2.2.2 hdg hlk
theorem jrv {post : Mu → Prop} (F : CallFix p m c cc nL s args TB own) (hr : meth.sig.returnType = none) (hlk : meth.locks = false) (hW : Wd E s H locs μ) (hdg : decode cc pc = .ok (.return_, 1)) (hp : post μ) :
    W p l e R s m args below meth c H locs 0 0 (MQ below (va_Qv post (fun μ' t => MB E μ' t.heap) (AA E)) args s 0 0 (AA E)) (F0 m pc ls []) :=
  W.vret F.1 F.2.1 hr (fun t ht _ => ⟨⟨μ, rfl, hp, (by subst ht; exact hW.1)⟩, hW.2.F ht⟩) hW.2.2.2 hdg hlk
theorem jrl {post : Int64 → Mu → Prop} {x : Int64} (F : CallFix p m c cc nL s args TB own) (hr : meth.sig.returnType = some .long) (hlk : meth.locks = false) (hW : Wd E s H locs μ) (hdg : decode cc pc = .ok (.lreturn, 1)) (hp : post x μ) :
    W p l e R s m args below meth c H locs 0 0 (MQ below (va_Ql post (fun μ' t => MB E μ' t.heap) (AA E)) args s 0 0 (AA E)) (F0 m pc ls [.long x]) :=
  W.lret F.1 F.2.1 hr (fun t ht _ => ⟨⟨x, μ, rfl, hp, (by subst ht; exact hW.1)⟩, hW.2.F ht⟩) hW.2.2.2 hdg hlk
end ENDS
section CALLS
variable {p : Program} {l : Launch} {e : Env} {R : Room} {s : State} {m : MethodId} {args : Array Value} {below : List Frame} {meth : Method} {c : Code} {H : Heap} {locs : List Loc} {cells slots : Nat} {Q : State → Prop}
variable {cc : ByteArray} {nL pc : Nat} {ls : Array Slot} {rest st0 : List Value} {own : String} {E : mE} {μ : Mu}
variable {μ0 : Mu} {index : Nat} {y : MethodName} {cd : ByteArray} {mL n fr lo : Nat} {rt : Option FieldType} {Qc : Array Value → State → Outcome → State → Prop} {As : List Value} {r q ci N : Nat} {kq : vw_C}
theorem jcb (F : CallFix p m c cc nL s args TB own) (hY : YC y cd mL rt n) (hL : Cond.methodLink own index y ∈ TB) (hR : fr + 1 ≤ R.frames ∧ 8 + (mL + 11) + lo ≤ R.locals) : CallB R s args own index y cd mL rt (Cond.code y cd mL rt :: TB) (rmO fr lo) 0 0 n :=
  callB_of n F.2.2.2.2 (tb_gin hY.1) rfl rfl rfl (F.2.2.2.2 _ hY.2.1) (F.2.2.2.2 _ hL) hY.2.2 hR
theorem jpre (hT : Stat E s) (hW : Wd E s H locs μ) {av : List Value} : ∀ U : State, U.heap = H → s.WarmedH U.vm → Pj E av μ av.toArray U := fun U hU hw => ⟨rfl, hT.moved hw hW.2 hU, by rw [hU]; exact hW.1⟩
theorem jrec (hT : Stat E s) (hW : Wd E s H locs μ) (hO : isO r q ci N) (hc : ci < 10) (hk : kcl[ci]? = some kq) : ∃ cellB : Cell, H[ea E r q]? = some cellB ∧ cellB.vm.isStatics = false ∧ s.vm.findClass kq.1 = some cellB.cls := by
  obtain ⟨q', h1, cell, g1, g2, g3, -⟩ := hO.cell hc hW.1
  exact ⟨cell, g1, by rw [g3]; rfl, by rw [g2]; exact (hT.K.1 ci kq hk).2.1⟩
/-- a call of a method of an object, virtual -/
theorem jrunV (F : CallFix p m c cc nL s args TB own) (hT : Stat E s) (hW : Wd E s H locs μ) (hY : YC y cd mL rt n) (hV : Cond.instanceMethod y ∈ TB ∧ Cond.selects kq.1 y y ∈ TB) (hL : Cond.methodLink own index y ∈ TB) (hO : isO r q ci N) (hc : ci < 10) (hk : kcl[ci]? = some kq)
    (hM : Met l y (Cond.code y cd mL rt :: TB) (rmO fr lo) (Pj E (.ref (ea E r q) :: As) μ) Qc 0 0 (AA E)) (hn : As.length = n) (hls : ls.size = nL) (hR : fr + 1 ≤ R.frames ∧ 8 + (mL + 11) + lo ≤ R.locals) (hst : st0 = As.reverse ++ .ref (ea E r q) :: rest) (hcat : (rest.map fun v => v.category).sum ≤ 8) (hcs : cells ≤ R.cells ∧ slots ≤ R.slots) (hdg : decode cc pc = .ok (.invokevirtual index, 3)) :
    va_Run p l e R s m args below meth c H locs cells slots 0 0 (F0 m pc ls st0) rest (Qc (Value.ref (ea E r q) :: As).toArray) (AA E) :=
  va_runV F hM ⟨jcb F hY hL hR, F.2.2.2.2 _ hV.1, F.2.2.2.2 _ hV.2⟩ ⟨Pj_blind, jrec hT hW hO hc hk, jpre hT hW⟩ rfl hn hls hst (lv_room hcat) hdg hcs
/-- a call of a static method -/
theorem jrunS (F : CallFix p m c cc nL s args TB own) (hT : Stat E s) (hW : Wd E s H locs μ) (hY : YC y cd mL rt n) (hV : Cond.static y ∈ TB) (hL : Cond.methodLink own index y ∈ TB)
    (hM : Met l y (Cond.code y cd mL rt :: TB) (rmO fr lo) (Pj E As μ) Qc 0 0 (AA E)) (hn : As.length = n) (hls : ls.size = nL) (hR : fr + 1 ≤ R.frames ∧ 8 + (mL + 11) + lo ≤ R.locals) (hst : st0 = As.reverse ++ rest) (hcat : (rest.map fun v => v.category).sum ≤ 8) (hcs : cells ≤ R.cells ∧ slots ≤ R.slots) (hdg : decode cc pc = .ok (.invokestatic index, 3)) :
    va_Run p l e R s m args below meth c H locs cells slots 0 0 (F0 m pc ls st0) rest (Qc As.toArray) (AA E) :=
  va_runS F hM ⟨jcb F hY hL hR, F.2.2.2.2 _ hV⟩ ⟨Pj_blind, jpre hT hW⟩ rfl hn hls hst (lv_room hcat) hdg hcs
/-- of a nest mate's private static method -/
theorem jrunSN (F : CallFix p m c cc nL s args TB own) (hT : Stat E s) (hW : Wd E s H locs μ) (hY : YC y cd mL rt n) (hV : Cond.static y ∈ TB) (hL : (own, index, y, "InterruptInn") ∈ nwM)
    (hM : Met l y (Cond.code y cd mL rt :: TB) (rmO fr lo) (Pj E As μ) Qc 0 0 (AA E)) (hn : As.length = n) (hls : ls.size = nL) (hR : fr + 1 ≤ R.frames ∧ 8 + (mL + 11) + lo ≤ R.locals) (hst : st0 = As.reverse ++ rest) (hcat : (rest.map fun v => v.category).sum ≤ 8) (hcs : cells ≤ R.cells ∧ slots ≤ R.slots) (hdg : decode cc pc = .ok (.invokestatic index, 3)) :
    va_Run p l e R s m args below meth c H locs cells slots 0 0 (F0 m pc ls st0) rest (Qc As.toArray) (AA E) :=
  va_runSN F hM ⟨va_cnB n F.2.2.2.2 (tb_gin hY.1) rfl rfl rfl (hT.1.2.2.1 _ hL) (F.2.2.2.2 _ hY.2.1) hY.2.2 hR, F.2.2.2.2 _ hV, trivial⟩ ⟨Pj_blind, jpre hT hW⟩ rfl hn hls hst (lv_room hcat) hdg hcs
theorem jci {a : Array Value} {post : Int32 → Mu → Prop} (hr : va_Run p l e R s m args below meth c H locs cells slots 0 0 (F0 m pc ls st0) rest (va_Qi post (fun μ' t => MB E μ' t.heap) (AA E) a) (AA E)) (hW : Wd E s H locs μ)
    (kk : ∀ (x : Int32) (μ' : Mu) (H : Heap) (locs : List Loc), post x μ' → Wd E s H locs μ' → W p l e R s m args below meth c H locs cells slots Q (F0 m (pc + 3) ls (.int x :: rest))) : W p l e R s m args below meth c H locs cells slots Q (F0 m pc ls st0) :=
  va_calli hr hW.2 (fun _ _ h => h) (fun _ h => h) (fun x μ' t H1 locs1 ht _ hp hB _ _ hS => kk x μ' H1 locs1 hp ⟨by rw [← ht]; exact hB, hS⟩)
theorem jcl {a : Array Value} {post : Int64 → Mu → Prop} (hr : va_Run p l e R s m args below meth c H locs cells slots 0 0 (F0 m pc ls st0) rest (va_Ql post (fun μ' t => MB E μ' t.heap) (AA E) a) (AA E)) (hW : Wd E s H locs μ)
    (kk : ∀ (x : Int64) (μ' : Mu) (H : Heap) (locs : List Loc), post x μ' → Wd E s H locs μ' → W p l e R s m args below meth c H locs cells slots Q (F0 m (pc + 3) ls (.long x :: rest))) : W p l e R s m args below meth c H locs cells slots Q (F0 m pc ls st0) :=
  va_calll hr hW.2 (fun _ _ h => h) (fun _ h => h) (fun x μ' t H1 locs1 ht _ hp hB _ _ hS => kk x μ' H1 locs1 hp ⟨by rw [← ht]; exact hB, hS⟩)
theorem jcv {a : Array Value} {post : Mu → Prop} (hr : va_Run p l e R s m args below meth c H locs cells slots 0 0 (F0 m pc ls st0) rest (va_Qv post (fun μ' t => MB E μ' t.heap) (AA E) a) (AA E)) (hW : Wd E s H locs μ)
    (kk : ∀ (μ' : Mu) (H : Heap) (locs : List Loc), post μ' → Wd E s H locs μ' → W p l e R s m args below meth c H locs cells slots Q (F0 m (pc + 3) ls rest)) : W p l e R s m args below meth c H locs cells slots Q (F0 m pc ls st0) :=
  va_callv hr hW.2 (fun _ _ h => h) (fun _ h => h) (fun μ' t H1 locs1 ht _ hp hB _ _ hS => kk μ' H1 locs1 hp ⟨by rw [← ht]; exact hB, hS⟩)
/-- the same, of contracts whose end is told by values -/
theorem jcif {a : Array Value} {x2 : Int32} {S2 : Sv} (hr : va_Run p l e R s m args below meth c H locs cells slots 0 0 (F0 m pc ls st0) rest (va_Qi (fun x μ' => x = x2 ∧ μ' = fo μ0 r S2) (fun μ' t => MB E μ' t.heap) (AA E) a) (AA E)) (hW : Wd E s H locs μ)
    (kk : ∀ (x : Int32) (S' : Sv) (H : Heap) (locs : List Loc), x = x2 → S' = S2 → Wd E s H locs (fo μ0 r S') → W p l e R s m args below meth c H locs cells slots Q (F0 m (pc + 3) ls (.int x :: rest))) : W p l e R s m args below meth c H locs cells slots Q (F0 m pc ls st0) :=
  jci hr hW (fun x μ' H locs hp hW => kk x S2 H locs hp.1 rfl (hW.to hp.2))
theorem jcip {a : Array Value} {x2 : Int32} (hr : va_Run p l e R s m args below meth c H locs cells slots 0 0 (F0 m pc ls st0) rest (va_Qi (fun x μ' => x = x2 ∧ μ' = μ) (fun μ' t => MB E μ' t.heap) (AA E) a) (AA E)) (hW : Wd E s H locs μ)
    (kk : ∀ (x : Int32) (H : Heap) (locs : List Loc), x = x2 → Wd E s H locs μ → W p l e R s m args below meth c H locs cells slots Q (F0 m (pc + 3) ls (.int x :: rest))) : W p l e R s m args below meth c H locs cells slots Q (F0 m pc ls st0) :=
  jci hr hW (fun x μ' H locs hp hW => kk x H locs hp.1 (hW.to hp.2))
theorem jclp {a : Array Value} {x2 : Int64} (hr : va_Run p l e R s m args below meth c H locs cells slots 0 0 (F0 m pc ls st0) rest (va_Ql (fun x μ' => x = x2 ∧ μ' = μ) (fun μ' t => MB E μ' t.heap) (AA E) a) (AA E)) (hW : Wd E s H locs μ)
    (kk : ∀ (x : Int64) (H : Heap) (locs : List Loc), x = x2 → Wd E s H locs μ → W p l e R s m args below meth c H locs cells slots Q (F0 m (pc + 3) ls (.long x :: rest))) : W p l e R s m args below meth c H locs cells slots Q (F0 m pc ls st0) :=
  jcl hr hW (fun x μ' H locs hp hW => kk x H locs hp.1 (hW.to hp.2))
theorem jcvf {a : Array Value} {S2 : Sv} (hr : va_Run p l e R s m args below meth c H locs cells slots 0 0 (F0 m pc ls st0) rest (va_Qv (fun μ' => μ' = fo μ0 r S2) (fun μ' t => MB E μ' t.heap) (AA E) a) (AA E)) (hW : Wd E s H locs μ)
    (kk : ∀ (S' : Sv) (H : Heap) (locs : List Loc), S' = S2 → Wd E s H locs (fo μ0 r S') → W p l e R s m args below meth c H locs cells slots Q (F0 m (pc + 3) ls rest)) : W p l e R s m args below meth c H locs cells slots Q (F0 m pc ls st0) :=
  jcv hr hW (fun μ' H locs hp hW => kk S2 H locs rfl (hW.to hp))
end CALLS
/-! static arrays of the class -/
section STATICS
variable {p : Program} {l : Launch} {e : Env} {R : Room} {s : State} {m : MethodId} {args : Array Value} {below : List Frame} {meth : Method} {c : Code} {H : Heap} {locs : List Loc} {cells slots : Nat} {Q : State → Prop}
variable {cc : ByteArray} {nL pc : Nat} {ls : Array Slot} {rest : List Value} {own : String} {E : mE} {μ : Mu} {index : Nat} {nm : String} {a : Nat}
theorem jgs (F : CallFix p m c cc nL s args TB own) (hW : Wd E s H locs μ) (hZ : va_Z "InterruptInn" nm "[I" (.ref a) (AA E) s s.heap) (hl : Cond.fieldLink own index "InterruptInn" nm "[I" ∈ TB) (hdg : decode cc pc = .ok (.getstatic index, 3))
    (kk : W p l e R s m args below meth c H locs cells slots Q (F0 m (pc + 3) ls (.ref a :: rest))) : W p l e R s m args below meth c H locs cells slots Q (F0 m pc ls rest) :=
  va_gets F.1 F.2.1 hZ hW.2 F.2.2.2.1 (F.2.2.2.2 _ hl) (fun _ h => h) hdg kk
theorem jgsN (F : CallFix p m c cc nL s args TB own) (hT : Stat E s) (hW : Wd E s H locs μ) (hZ : va_Z "InterruptInn" nm "[I" (.ref a) (AA E) s s.heap) (hl : (own, index, "InterruptInn", nm, "[I", "InterruptInn") ∈ nwF) (hdg : decode cc pc = .ok (.getstatic index, 3))
    (kk : W p l e R s m args below meth c H locs cells slots Q (F0 m (pc + 3) ls (.ref a :: rest))) : W p l e R s m args below meth c H locs cells slots Q (F0 m pc ls rest) :=
  va_getsN F.1 F.2.1 hZ hW.2 F.2.2.2.1 (va_Nw.use rfl (hT.1.2.1 _ hl)) (fun _ h => h) hdg kk
end STATICS
end
section
/-! which cells there are; small numbers -/
theorem rn12 {r : Nat} (h : r < 11) : r ≠ 12 := by omega
theorem oSrv {r : Nat} (h : r < 11) : isO r 0 3 11 := ⟨Or.inl ⟨h, by omega⟩, by unfold kd; rw [if_pos h]; rfl⟩
theorem oSet {r : Nat} (h : r < 11) : isO r 1 10 7 := ⟨Or.inl ⟨h, by omega⟩, by unfold kd; rw [if_pos h]; rfl⟩
theorem oLns {r : Nat} (h : r < 11) : isO r 2 13 12 := ⟨Or.inl ⟨h, by omega⟩, by unfold kd; rw [if_pos h]; rfl⟩
theorem oLin {r i : Nat} (h : r < 11) (hi : i < 12) : isO r (3 + i) 1 16 := ⟨Or.inl ⟨h, by omega⟩, by unfold kd; rw [if_pos h, if_neg (by omega), if_neg (by omega), if_neg (by omega), if_pos (by omega)]⟩
theorem oTms {r : Nat} (h : r < 11) : isO r 15 14 6 := ⟨Or.inl ⟨h, by omega⟩, by unfold kd; rw [if_pos h]; rfl⟩
theorem oTim {r i : Nat} (h : r < 11) (hi : i < 6) : isO r (16 + i) 5 3 := ⟨Or.inl ⟨h, by omega⟩, by unfold kd; rw [if_pos h, if_neg (by omega), if_neg (by omega), if_neg (by omega), if_neg (by omega), if_neg (by omega), if_pos (by omega)]⟩
theorem oNst {r : Nat} (h : r < 11) : isO r 22 15 8 := ⟨Or.inl ⟨h, by omega⟩, by unfold kd; rw [if_pos h]; rfl⟩
theorem oSvc {r i : Nat} (h : r < 11) (hi : i < 8) : isO r (23 + i) 4 4 := ⟨Or.inl ⟨h, by omega⟩, by unfold kd; rw [if_pos h, if_neg (by omega), if_neg (by omega), if_neg (by omega), if_neg (by omega), if_neg (by omega), if_neg (by omega), if_neg (by omega)]⟩
theorem rSrv0 {r : Nat} (h : r < 11) : rf r 0 0 = none := by unfold rf; rw [if_pos h]; rfl
theorem rSrv1 {r : Nat} (h : r < 11) : rf r 0 1 = some (r, 1) := by unfold rf; rw [if_pos h]; rfl
theorem rSrv2 {r : Nat} (h : r < 11) : rf r 0 2 = some (r, 2) := by unfold rf; rw [if_pos h]; rfl
theorem rSrv3 {r : Nat} (h : r < 11) : rf r 0 3 = none := by unfold rf; rw [if_pos h]; rfl
theorem rSrv4 {r : Nat} (h : r < 11) : rf r 0 4 = some (r, 15) := by unfold rf; rw [if_pos h]; rfl
theorem rSrv5 {r : Nat} (h : r < 11) : rf r 0 5 = none := by unfold rf; rw [if_pos h]; rfl
theorem rSrv6 {r : Nat} (h : r < 11) : rf r 0 6 = some (r, 22) := by unfold rf; rw [if_pos h]; rfl
theorem rSrv7 {r : Nat} (h : r < 11) : rf r 0 7 = none := by unfold rf; rw [if_pos h]; rfl
theorem rSrv8 {r : Nat} (h : r < 11) : rf r 0 8 = none := by unfold rf; rw [if_pos h]; rfl
theorem rSrv9 {r : Nat} (h : r < 11) : rf r 0 9 = none := by unfold rf; rw [if_pos h]; rfl
theorem rSrv10 {r : Nat} (h : r < 11) : rf r 0 10 = none := by unfold rf; rw [if_pos h]; rfl
theorem rSet {r k : Nat} (h : r < 11) : rf r 1 k = none := by unfold rf; rw [if_pos h]; rfl
theorem rLns {r k : Nat} (h : r < 11) : rf r 2 k = some (r, 3 + k) := by unfold rf; rw [if_pos h]; rfl
theorem rTms {r k : Nat} (h : r < 11) : rf r 15 k = some (r, 16 + k) := by unfold rf; rw [if_pos h]; rfl
theorem rNst {r k : Nat} (h : r < 11) : rf r 22 k = some (r, 23 + k) := by unfold rf; rw [if_pos h]; rfl
theorem rLin {r i k : Nat} (h : r < 11) (hi : i < 12) : rf r (3 + i) k = none := by unfold rf; rw [if_pos h, if_neg (by omega), if_neg (by omega), if_neg (by omega), if_neg (by omega)]
theorem rTim {r i k : Nat} (h : r < 11) (hi : i < 6) : rf r (16 + i) k = none := by unfold rf; rw [if_pos h, if_neg (by omega), if_neg (by omega), if_neg (by omega), if_neg (by omega)]
theorem rSvc {r i k : Nat} (h : r < 11) (hi : i < 8) : rf r (23 + i) k = none := by unfold rf; rw [if_pos h, if_neg (by omega), if_neg (by omega), if_neg (by omega), if_neg (by omega)]
theorem oH0 : isO 11 0 6 6 := ⟨Or.inr (Or.inl ⟨rfl, by decide⟩), rfl⟩
theorem oH1 : isO 11 1 16 2 := ⟨Or.inr (Or.inl ⟨rfl, by decide⟩), rfl⟩
theorem oH2 : isO 11 2 11 2 := ⟨Or.inr (Or.inl ⟨rfl, by decide⟩), rfl⟩
theorem oH3 : isO 11 3 0 3 := ⟨Or.inr (Or.inl ⟨rfl, by decide⟩), rfl⟩
theorem oH4 : isO 11 4 16 7 := ⟨Or.inr (Or.inl ⟨rfl, by decide⟩), rfl⟩
theorem oH5 : isO 11 5 2 2 := ⟨Or.inr (Or.inl ⟨rfl, by decide⟩), rfl⟩
theorem oH6 : isO 11 6 12 80 := ⟨Or.inr (Or.inl ⟨rfl, by decide⟩), rfl⟩
theorem oZ0 : isO 12 0 10 7 := ⟨Or.inr (Or.inr (Or.inl ⟨rfl, by decide⟩)), rfl⟩
theorem oZ1 : isO 12 1 10 7 := ⟨Or.inr (Or.inr (Or.inl ⟨rfl, by decide⟩)), rfl⟩
theorem oZ2 : isO 12 2 10 7 := ⟨Or.inr (Or.inr (Or.inl ⟨rfl, by decide⟩)), rfl⟩
theorem oM0 : isO 13 0 7 13 := ⟨Or.inr (Or.inr (Or.inr ⟨rfl, by decide⟩)), rfl⟩
theorem oM1 : isO 13 1 10 280 := ⟨Or.inr (Or.inr (Or.inr ⟨rfl, by decide⟩)), rfl⟩
theorem oM2 : isO 13 2 10 280 := ⟨Or.inr (Or.inr (Or.inr ⟨rfl, by decide⟩)), rfl⟩
theorem oM3 : isO 13 3 10 1680 := ⟨Or.inr (Or.inr (Or.inr ⟨rfl, by decide⟩)), rfl⟩
theorem oM4 : isO 13 4 10 560 := ⟨Or.inr (Or.inr (Or.inr ⟨rfl, by decide⟩)), rfl⟩
theorem oM5 : isO 13 5 11 2 := ⟨Or.inr (Or.inr (Or.inr ⟨rfl, by decide⟩)), rfl⟩
theorem oM6 : isO 13 6 10 80 := ⟨Or.inr (Or.inr (Or.inr ⟨rfl, by decide⟩)), rfl⟩
theorem oM7 : isO 13 7 10 240 := ⟨Or.inr (Or.inr (Or.inr ⟨rfl, by decide⟩)), rfl⟩
/-! small numbers -/
theorem lI (n : Nat) : (OfNat.ofNat n : Int32) = nI n := rfl
def cn (x : Int32) : Nat := x.toNatClampNeg
theorem ia {x y : Int32} {a b : Nat} (hx : x = nI a) (hy : y = nI b) : x + y = nI (a + b) := by rw [hx, hy]; exact nI_add a b
theorem im {x y : Int32} {a b : Nat} (hx : x = nI a) (hy : y = nI b) : x * y = nI (a * b) := by rw [hx, hy]; exact pk_mul a b
theorem isb {x y : Int32} {a b : Nat} (hx : x = nI a) (hy : y = nI b) (h : b ≤ a) : x - y = nI (a - b) := by rw [hx, hy]; exact pk_sub h
theorem c_le {x y : Int32} {a b : Nat} (hx : x = nI a) (hy : y = nI b) (h : a ≤ b) (hb : b < 2 ^ 31) : x ≤ y := by rw [hx, hy]; exact nI_le h hb
theorem c_nle {x y : Int32} {a b : Nat} (hx : x = nI a) (hy : y = nI b) (h : b < a) (ha : a < 2 ^ 31) : ¬ x ≤ y := by rw [hx, hy]; exact nI_ge h ha
theorem c_lt {x y : Int32} {a b : Nat} (hx : x = nI a) (hy : y = nI b) (h : a < b) (hb : b < 2 ^ 31) : x < y := by rw [hx, hy]; exact nI_lt h hb
theorem c_nlt {x y : Int32} {a b : Nat} (hx : x = nI a) (hy : y = nI b) (h : b ≤ a) (ha : a < 2 ^ 31) : ¬ x < y := by rw [hx, hy]; exact nI_nlt h ha
theorem znar {v : Int32} (h : v = 0 ∨ v = 1) : narrow .boolean (.int v) = .int v := by rcases h with rfl | rfl <;> rfl
theorem zfit {v : Int32} (h : v = 0 ∨ v = 1) : fits .boolean (.int v) = true := by rcases h with rfl | rfl <;> rfl
/-- f 0, f 1, .. in turn -/
def itN {α : Type} (f : Nat → α → α) : Nat → α → α
  | 0, a => a
  | n + 1, a => f n (itN f n a)
theorem itN_s {α : Type} (f : Nat → α → α) (n : Nat) (a : α) : itN f (n + 1) a = f n (itN f n a) := rfl
theorem nz0 {y : Int32} (h : ¬ y ≤ 0) : ¬ y = 0 := fun e => h (by rw [e]; exact Int32.le_refl 0)
/-! more rows: cells of another region; a walk over several regions -/
def vFst (j : Nat) : Int32 := match j with | 0 => 20 | 1 => 24 | 2 => 1 | 3 => 3 | 4 => 1 | 5 => 1 | _ => 0
def vLst (j : Nat) : Int32 := match j with | 2 => 1 | 3 => 1 | _ => 0
def vMst (j : Nat) : Int32 := match j with | 0 => 100 | 1 => 31 | 2 => 9 | 3 => 8 | 4 => 9 | 5 => 1 | _ => 31
section ROWSG
variable {p : Program} {l : Launch} {e : Env} {R : Room} {s : State} {m : MethodId} {args : Array Value} {below : List Frame} {meth : Method} {c : Code} {H : Heap} {locs : List Loc} {cells slots : Nat} {Q : State → Prop}
variable {cc : ByteArray} {nL pc : Nat} {ls : Array Slot} {rest st0 : List Value} {own : String} {E : mE} {μ μ0 : Mu} {r : Nat}
theorem jgetG {index q k ci N : Nat} (F : CallFix p m c cc nL s args TB own) (hT : Stat E s) (hW : Wd E s H locs μ) (hf : FW own index ci k) (hO : isO r q ci N) (hc : ci < 10) (hn : rf r q k = none) {v : Int32} (hv : μ r q k = v) (hdg : decode cc pc = .ok (.getfield index, 3))
    (kk : W p l e R s m args below meth c H locs cells slots Q (F0 m (pc + 3) ls (.int v :: rest))) : W p l e R s m args below meth c H locs cells slots Q (F0 m pc ls (.ref (ea E r q) :: rest)) :=
  jget F hT (hW.foc r) hf hO hc hn hdg (by rw [hv]; exact kk)
theorem jialdG {q n : Nat} {x : Int32} (j : Nat) (F : CallFix p m c cc nL s args TB own) (hT : Stat E s) (hW : Wd E s H locs μ) (hO : isO r q 10 n) (hj : j < n) (hn : n < 2 ^ 31) (hx : x = nI j) (hr : rf r q j = none) {v : Int32} (hv : μ r q j = v) (hdg : decode cc pc = .ok (.iaload, 1))
    (kk : W p l e R s m args below meth c H locs cells slots Q (F0 m (pc + 1) ls (.int v :: rest))) : W p l e R s m args below meth c H locs cells slots Q (F0 m pc ls (.int x :: .ref (ea E r q) :: rest)) :=
  jiald F hT (hW.foc r) j hO hj hn hx hr hdg (by rw [hv]; exact kk)
theorem jputM {index q k ci N : Nat} {ty : FieldType} {v : Int32} (F : CallFix p m c cc nL s args TB own) (hT : Stat E s) (hW : Wd E s H locs μ) (hf : FW own index ci k) (ht : FT ci k ty false) (hO : isO r q ci N) (hc : ci < 10) (hr : r ≠ 12) (hn : rf r q k = none) (hna : narrow ty (.int v) = .int v) (hfi : fits ty (.int v) = true) (hdg : decode cc pc = .ok (.putfield index, 3))
    (kk : ∀ (M' : Mu) (H : Heap) (locs : List Loc), M' = fo μ r (us (μ r) q k v) → Wd E s H locs M' → W p l e R s m args below meth c H locs cells slots Q (F0 m (pc + 3) ls rest)) : W p l e R s m args below meth c H locs cells slots Q (F0 m pc ls (.int v :: .ref (ea E r q) :: rest)) :=
  jput F hT (hW.foc r) hf ht hO hc hr hn hna hfi hdg (fun S' H locs h hW => kk _ H locs (by rw [h]) hW)
theorem jzastM {q n : Nat} {x v : Int32} (j : Nat) (F : CallFix p m c cc nL s args TB own) (hT : Stat E s) (hW : Wd E s H locs μ) (hO : isO r q 11 n) (hr2 : r ≠ 12) (hj : j < n) (hn : n < 2 ^ 31) (hx : x = nI j) (hr : rf r q j = none) (hna : narrow .boolean (.int v) = .int v) (hdg : decode cc pc = .ok (.bastore, 1))
    (kk : ∀ (M' : Mu) (H : Heap) (locs : List Loc), M' = fo μ r (us (μ r) q j v) → Wd E s H locs M' → W p l e R s m args below meth c H locs cells slots Q (F0 m (pc + 1) ls rest)) : W p l e R s m args below meth c H locs cells slots Q (F0 m pc ls (.int v :: .int x :: .ref (ea E r q) :: rest)) :=
  jzast F hT (hW.foc r) j hO hr2 hj hn hx hr hna hdg (fun S' H locs h hW => kk _ H locs (by rw [h]) hW)
theorem jcifM {a : Array Value} {x2 : Int32} {S2 : Sv} (hr : va_Run p l e R s m args below meth c H locs cells slots 0 0 (F0 m pc ls st0) rest (va_Qi (fun x μ' => x = x2 ∧ μ' = fo μ0 r S2) (fun μ' t => MB E μ' t.heap) (AA E) a) (AA E)) (hW : Wd E s H locs μ)
    (kk : ∀ (x : Int32) (M' : Mu) (H : Heap) (locs : List Loc), x = x2 → M' = fo μ0 r S2 → Wd E s H locs M' → W p l e R s m args below meth c H locs cells slots Q (F0 m (pc + 3) ls (.int x :: rest))) : W p l e R s m args below meth c H locs cells slots Q (F0 m pc ls st0) :=
  jci hr hW (fun x μ' H locs hp hW => kk x μ' H locs hp.1 hp.2 hW)
theorem jciG {a : Array Value} {x2 : Int32} {M2 : Mu} (hr : va_Run p l e R s m args below meth c H locs cells slots 0 0 (F0 m pc ls st0) rest (va_Qi (fun x μ' => x = x2 ∧ μ' = M2) (fun μ' t => MB E μ' t.heap) (AA E) a) (AA E)) (hW : Wd E s H locs μ)
    (kk : ∀ (x : Int32) (M' : Mu) (H : Heap) (locs : List Loc), x = x2 → M' = M2 → Wd E s H locs M' → W p l e R s m args below meth c H locs cells slots Q (F0 m (pc + 3) ls (.int x :: rest))) : W p l e R s m args below meth c H locs cells slots Q (F0 m pc ls st0) :=
  jci hr hW (fun x μ' H locs hp hW => kk x μ' H locs hp.1 hp.2 hW)
theorem jcipM {a : Array Value} {x2 : Int32} (hr : va_Run p l e R s m args below meth c H locs cells slots 0 0 (F0 m pc ls st0) rest (va_Qi (fun x μ' => x = x2 ∧ μ' = fo μ r (μ r)) (fun μ' t => MB E μ' t.heap) (AA E) a) (AA E)) (hW : Wd E s H locs μ)
    (kk : ∀ (x : Int32) (H : Heap) (locs : List Loc), x = x2 → Wd E s H locs μ → W p l e R s m args below meth c H locs cells slots Q (F0 m (pc + 3) ls (.int x :: rest))) : W p l e R s m args below meth c H locs cells slots Q (F0 m pc ls st0) :=
  jci hr hW (fun x μ' H locs hp hW => kk x H locs hp.1 (hW.to (by rw [hp.2, fo_self])))
theorem jcvM {a : Array Value} {S2 : Sv} (hr : va_Run p l e R s m args below meth c H locs cells slots 0 0 (F0 m pc ls st0) rest (va_Qv (fun μ' => μ' = fo μ0 r S2) (fun μ' t => MB E μ' t.heap) (AA E) a) (AA E)) (hW : Wd E s H locs μ)
    (kk : ∀ (M' : Mu) (H : Heap) (locs : List Loc), M' = fo μ0 r S2 → Wd E s H locs M' → W p l e R s m args below meth c H locs cells slots Q (F0 m (pc + 3) ls rest)) : W p l e R s m args below meth c H locs cells slots Q (F0 m pc ls st0) :=
  jcv hr hW (fun μ' H locs hp hW => kk μ' H locs hp hW)
theorem jcvG {a : Array Value} {M2 : Mu} (hr : va_Run p l e R s m args below meth c H locs cells slots 0 0 (F0 m pc ls st0) rest (va_Qv (fun μ' => μ' = M2) (fun μ' t => MB E μ' t.heap) (AA E) a) (AA E)) (hW : Wd E s H locs μ)
    (kk : ∀ (M' : Mu) (H : Heap) (locs : List Loc), M' = M2 → Wd E s H locs M' → W p l e R s m args below meth c H locs cells slots Q (F0 m (pc + 3) ls rest)) : W p l e R s m args below meth c H locs cells slots Q (F0 m pc ls st0) :=
  jcv hr hW (fun μ' H locs hp hW => kk μ' H locs hp hW)
end ROWSG
def Bn (x : Int32) (b : Nat) : Prop := x = nI (cn x) ∧ cn x ≤ b
theorem bnI {n b : Nat} (h : n ≤ b) (hb : n < 2 ^ 31) : Bn (nI n) b := by
  have h1 : cn (nI n) = n := nI_clamp hb
  exact ⟨by rw [h1], by rw [h1]; exact h⟩
theorem iteP {P : Int32 → Prop} {c : Prop} {h : Decidable c} {a b : Int32} (h1 : P a) (h2 : P b) : P (@ite _ c h a b) := by
  by_cases hc : c
  · rw [if_pos hc]; exact h1
  · rw [if_neg hc]; exact h2
theorem bn_lt {x : Int32} {b c : Nat} (hx : Bn x b) (hb : b < 2 ^ 31) (hc : c < 2 ^ 31) (h : x < nI c) : cn x < c := by
  rw [hx.1] at h
  exact Nat.lt_of_not_le fun q => absurd h (nI_nlt q (Nat.lt_of_le_of_lt hx.2 hb))
/-- System.arraycopy of a server's settings into another's -/
def cpS (S T : Sv) : Sv := fun p k => if p = 1 ∧ k < 7 then T 1 k else S p k
theorem wl_X3_224 : Cond.constantLong RX3 224 1000 ∈ TB := tb_in 554 (by decide +kernel) rfl
theorem wl_X2_23 : Cond.constantLong RX2 23 255 ∈ TB := tb_in 566 (by decide +kernel) rfl
theorem wl_X7_144 : Cond.constantLong RX7 144 255 ∈ TB := tb_in 851 (by decide +kernel) rfl
theorem wl_L_94 : Cond.constantLong RL 94 4294967295 ∈ TB := tb_in 904 (by decide +kernel) rfl
theorem nz1 {y : Int64} (h : ¬ lg_cmp y 0 ≤ 0) : ¬ y = 0 := fun e => h (by rw [e]; decide)
theorem iteZ {c : Prop} {h : Decidable c} {a b : Int32} (h1 : a = 0 ∨ a = 1) (h2 : b = 0 ∨ b = 1) : (@ite _ c h a b) = 0 ∨ (@ite _ c h a b) = 1 := by
  by_cases hc : c
  · rw [if_pos hc]; exact h1
  · rw [if_neg hc]; exact h2
end
section
/-! cells that are being laid: L tells which are there, V what their slots hold -/
abbrev Vs : Type := Nat → Nat → Nat → Value
def cellV (E : mE) (f : Nat → Value) (H : Heap) (r p : Nat) : Prop :=
  if (kd r p).1 < 10 then ∃ q : vw_C, kcl[(kd r p).1]? = some q ∧ t_OB (ea E r p) (E.1.1 (kd r p).1) q.2.2 (E.1.2 (kd r p).1) H f
  else arA r (H[ea E r p]?) (E.2.1 ((kd r p).1 - 10)) (kd r p).2 f
def vs (V : Vs) (r p : Nat) (f : Nat → Value) : Vs := fun r' p' => if r' = r ∧ p' = p then f else V r' p'
def PB (E : mE) (V : Vs) (L : Nat → Nat → Prop) (H : Heap) : Prop := ∀ r p, L r p → live r p ∧ cellV E (V r p) H r p
def BW (E : mE) (s : State) (H : Heap) (locs : List Loc) (V : Vs) (L : Nat → Nat → Prop) (n : Nat) : Prop := PB E V L H ∧ va_S (AA E) s.heap H locs ∧ H.size = n
theorem vs_at (V : Vs) (r p : Nat) (f : Nat → Value) : vs V r p f r p = f := if_pos ⟨rfl, rfl⟩
theorem vs_ne (V : Vs) {r p r' p' : Nat} (f : Nat → Value) (h : ¬ (r' = r ∧ p' = p)) : vs V r p f r' p' = V r' p' := if_neg h
theorem PB.mb {E : mE} {V : Vs} {L : Nat → Nat → Prop} {H : Heap} {μ : Mu} (h : PB E V L H) (hL : ∀ r p, live r p → L r p ∧ V r p = sl E μ r p) : MB E μ H := by
  intro r p hl
  obtain ⟨h1, h2⟩ := hL r p hl
  have h3 := (h r p h1).2
  rw [h2] at h3
  exact h3
theorem PB.to {E : mE} {V V' : Vs} {L L' : Nat → Nat → Prop} {H : Heap} (h : PB E V L H) (hL : ∀ r p, L' r p → L r p ∧ V' r p = V r p) : PB E V' L' H := by
  intro r p hl
  obtain ⟨h1, h2⟩ := hL r p hl
  rw [h2]
  exact h r p h1
theorem cellV.kept {E : mE} {f : Nat → Value} {H H1 : Heap} {r p : Nat} (h : cellV E f H r p) (hq : H1[ea E r p]? = H[ea E r p]?) : cellV E f H1 r p := by
  unfold cellV at h ⊢
  split
  · next h2 =>
    rw [if_pos h2] at h
    obtain ⟨q, g1, g2⟩ := h
    exact ⟨q, g1, g2.kept hq⟩
  · next h2 =>
    rw [if_neg h2] at h
    rw [hq]
    exact h
theorem cellV.lt {E : mE} {f : Nat → Value} {H : Heap} {r p : Nat} (h : cellV E f H r p) : ea E r p < H.size := by
  unfold cellV at h
  split at h
  · obtain ⟨q, g1, cell, g2, -⟩ := h
    exact (Array.getElem?_eq_some_iff.mp g2).1
  · obtain ⟨cell, g2, -⟩ := h.ex
    exact (Array.getElem?_eq_some_iff.mp g2).1
theorem PB.push {E : mE} {V : Vs} {L : Nat → Nat → Prop} {H H1 : Heap} {r p : Nat} {f : Nat → Value} (h : PB E V L H) (hl : live r p) (hc : cellV E f H1 r p) (o1 : ∀ q, q < H.size → H1[q]? = H[q]?) : PB E (vs V r p f) (fun r' p' => L r' p' ∨ (r' = r ∧ p' = p)) H1 := by
  intro r' p' hL
  by_cases he : r' = r ∧ p' = p
  · obtain ⟨rfl, rfl⟩ := he
    rw [vs_at]
    exact ⟨hl, hc⟩
  · obtain ⟨h1, h2⟩ := h r' p' (hL.resolve_right he)
    rw [vs_ne _ _ he]
    exact ⟨h1, h2.kept (o1 _ h2.lt)⟩
theorem PB.upd {E : mE} {V : Vs} {L : Nat → Nat → Prop} {H H1 : Heap} {r p : Nat} {f : Nat → Value} (h : PB E V L H) (hI : Inj E) (hl : L r p) (hc : cellV E f H1 r p) (oq : ∀ q : Nat, q ≠ ea E r p → H1[q]? = H[q]?) : PB E (vs V r p f) L H1 := by
  intro r' p' hL
  by_cases he : r' = r ∧ p' = p
  · obtain ⟨rfl, rfl⟩ := he
    rw [vs_at]
    exact ⟨(h _ _ hl).1, hc⟩
  · obtain ⟨h1, h2⟩ := h r' p' hL
    rw [vs_ne _ _ he]
    exact ⟨h1, h2.kept (oq _ fun e => he (hI _ _ _ _ h1 (h _ _ hl).1 e))⟩
theorem nI_nneg {n : Nat} (h : n < 2 ^ 31) : ¬ nI n < 0 := Int32.not_lt.mpr ((nI_leI (a := 0) (by decide) h).mpr (Nat.zero_le _))
section ROWSB
variable {p : Program} {l : Launch} {e : Env} {R : Room} {s : State} {m : MethodId} {args : Array Value} {below : List Frame} {meth : Method} {c : Code} {H : Heap} {locs : List Loc} {cells slots : Nat} {Q : State → Prop}
variable {cc : ByteArray} {nL pc : Nat} {ls : Array Slot} {rest : List Value} {own : String} {E : mE} {V : Vs} {L : Nat → Nat → Prop} {n : Nat}
theorem bS {A : Nat → Prop} {H0 H H1 : Heap} {locs : List Loc} (h : va_S A H0 H locs) (z1 : H1.size = H.size + 1) (o1 : ∀ q, q < H.size → H1[q]? = H[q]?) : va_S A H0 H1 locs :=
  ⟨Nat.le_trans h.1 (by omega), fun x h1 h2 => (o1 x (Nat.lt_of_lt_of_le h1 h.1)).trans (h.2.1 x h1 h2), h.2.2⟩
/-- an object is laid: its slots hold their first values -/
theorem bnew (F : CallFix p m c cc nL s args TB own) (hT : Stat E s) (hB : BW E s H locs V L n) {index r q ci N : Nat} {C : String} {T : u_T} {ty : Nat → FieldType} (hc : kcl[ci]? = some (C, T, N)) (hty : ∀ k, k < N → parseFieldDescriptor (T k).2.2.1 = some (ty k)) (hin : ∀ w ∈ u_ws C T N, w ∈ TB)
    (h1 : Cond.classLink own index C ∈ TB) (h2 : Cond.instantiable C N ∈ TB) (h3 : Cond.initialized C ∈ TB) (hea : ea E r q = n) (hl : live r q) (hk : kd r q = (ci, N)) (hci : ci < 10) (hcells : cells + 1 ≤ R.cells) (hslots : slots + N ≤ R.slots) (hdg : decode cc pc = .ok (.new index, 3))
    (kk : ∀ H1 : Heap, BW E s H1 locs (vs V r q (fun k => defaultValue (ty k))) (fun r' p' => L r' p' ∨ (r' = r ∧ p' = q)) (n + 1) → W p l e R s m args below meth c H1 locs (cells + 1) (slots + N) Q (F0 m (pc + 3) ls (.ref (ea E r q) :: rest))) : W p l e R s m args below meth c H locs cells slots Q (F0 m pc ls rest) := by
  have hts := F.2.2.2.2
  have hKn := hT.K.1 ci _ hc
  obtain ⟨b1, b2, b3⟩ := hB
  refine W.newcK F.1 F.2.1 F.2.2.2.1 (hts _ h1) (hts _ h2) (hts _ h3) rfl hdg hcells hslots hKn.2.1 (b3.trans hea.symm) fun H1 kC hkC e1 z1 o1 => ?_
  rw [hea] at z1 o1
  refine kk H1 ⟨b1.push hl ?_ (fun x hx => o1 x (by omega)), bS b2 (by omega) (fun x hx => o1 x (by omega)), z1⟩
  unfold cellV
  rw [hk, if_pos hci]
  exact ⟨_, hc, u_born ty hts hin hKn hkC e1 hty⟩
/-- an array of numbers is laid -/
theorem bnewi (F : CallFix p m c cc nL s args TB own) (hT : Stat E s) (hB : BW E s H locs V L n) {r q t N : Nat} {atype : ArrayType} {x : Int32} (hty : (tyL E)[t]? = some (E.2.1 t, newarray.typeOf atype)) (ho : ∀ C, newarray.typeOf atype ≠ .object C) (h1 : Cond.arrayClass (newarray.typeOf atype) ∈ TB) (hx : x = nI N) (hN : N < 2 ^ 31) (hby : N * componentBytes (newarray.typeOf atype) ≤ 536870912)
    (hea : ea E r q = n) (hl : live r q) (hk : kd r q = (10 + t, N)) (hcells : cells + 1 ≤ R.cells) (hslots : slots + N ≤ R.slots) (hdg : decode cc pc = .ok (.newarray atype, 2))
    (kk : ∀ H1 : Heap, BW E s H1 locs (vs V r q (fun _ => defaultValue (newarray.typeOf atype))) (fun r' p' => L r' p' ∨ (r' = r ∧ p' = q)) (n + 1) → W p l e R s m args below meth c H1 locs (cells + 1) (slots + N) Q (F0 m (pc + 2) ls (.ref (ea E r q) :: rest))) : W p l e R s m args below meth c H locs cells slots Q (F0 m pc ls (.int x :: rest)) := by
  have hts := F.2.2.2.2
  obtain ⟨b1, b2, b3⟩ := hB
  subst hx
  refine va_newaK F.1 F.2.1 (hts _ h1) rfl hdg rfl (nI_nneg hN) (nI_clamp hN) hby hcells hslots (b3.trans hea.symm) fun H1 cA e1 z1 o1 hAr hNm => ?_
  have hcA : cA = E.2.1 t := by
    have hk2 := (hT.K.2 t _ hty).2
    unfold va_RA at hk2
    generalize newarray.typeOf atype = ty at hk2 hNm ho
    cases ty with
    | object C => exact absurd rfl (ho C)
    | _ => exact Option.some.inj (hNm.symm.trans hk2)
  rw [hea] at z1 o1
  refine kk H1 ⟨b1.push hl ?_ (fun x hx => o1 x (by omega)), bS b2 (by omega) (fun x hx => o1 x (by omega)), z1⟩
  unfold cellV
  rw [hk, if_neg (by show ¬ 10 + t < 10; omega), show ((10 + t, N) : Nat × Nat).1 - 10 = t by show 10 + t - 10 = t; omega, ← hcA]
  exact arA.of e1
/-- an array of references is laid -/
theorem bnewq (F : CallFix p m c cc nL s args TB own) (hT : Stat E s) (hB : BW E s H locs V L n) {index r q t N : Nat} {C : String} {x : Int32} (hty : (tyL E)[t]? = some (E.2.1 t, .object C)) (h1 : Cond.classLink own index C ∈ TB) (h2 : va_AO C s) (hx : x = nI N) (hN : N < 2 ^ 31) (hby : N * 4 ≤ 536870912)
    (hea : ea E r q = n) (hl : live r q) (hk : kd r q = (10 + t, N)) (hcells : cells + 1 ≤ R.cells) (hslots : slots + N ≤ R.slots) (hdg : decode cc pc = .ok (.anewarray index, 3))
    (kk : ∀ H1 : Heap, BW E s H1 locs (vs V r q (fun _ => .null)) (fun r' p' => L r' p' ∨ (r' = r ∧ p' = q)) (n + 1) → W p l e R s m args below meth c H1 locs (cells + 1) (slots + N) Q (F0 m (pc + 3) ls (.ref (ea E r q) :: rest))) : W p l e R s m args below meth c H locs cells slots Q (F0 m pc ls (.int x :: rest)) := by
  have hts := F.2.2.2.2
  obtain ⟨b1, b2, b3⟩ := hB
  subst hx
  have hcl : (nI N).toNatClampNeg = N := nI_clamp hN
  refine W.anew F.1 F.2.1 F.2.2.2.1 (hts _ h1) (va_AO.use h2) rfl hdg rfl (nI_nneg hN) (by rw [hcl]; exact hby) hcells (by rw [hcl]; exact hslots) fun cA kA comp f1 f2 f3 f4 => ?_
  obtain ⟨kA', comp', -, -, -, k4⟩ := (hT.K.2 t _ hty).2
  have hcA : cA = E.2.1 t := Option.some.inj (f1.symm.trans k4)
  rw [hcl]
  generalize hH1 : H.push ({ cls := cA, slots := Array.replicate N .null, vm := .none } : Cell) = H1
  have z1 : H1.size = H.size + 1 := by rw [← hH1, Array.size_push]
  have e1 : H1[H.size]? = some (arrV cA N (fun _ => .null)) := by rw [← hH1, Array.getElem?_push_size, ← arrV_new]
  have o1 : ∀ q : Nat, q < H.size → H1[q]? = H[q]? := fun q hq => by rw [← hH1, Array.getElem?_push, if_neg (Nat.ne_of_lt hq)]
  have hs : H.size = ea E r q := b3.trans hea.symm
  rw [hs]
  refine kk H1 ⟨b1.push hl ?_ o1, bS b2 z1 o1, by omega⟩
  unfold cellV
  rw [hk, if_neg (by show ¬ 10 + t < 10; omega), show ((10 + t, N) : Nat × Nat).1 - 10 = t by show 10 + t - 10 = t; omega, ← hcA, ← hs]
  exact arA.of e1
/-- a final field is set, in a constructor -/
theorem bputF {index r q ci k N : Nat} {C : String} {T : u_T} {ty0 : Nat → FieldType} {ty : FieldType} {v : Value} (F : CallFix p m c cc nL s args TB own) (hT : Stat E s) (hB : BW E s H locs V L n) (hc : kcl[ci]? = some (C, T, N)) (hty : ∀ k, k < N → parseFieldDescriptor (T k).2.2.1 = some (ty0 k)) (hnm : ∀ a, a < N → ∀ b, b < N → a ≠ b → (T a).2.1 ≠ (T b).2.1) (hf : FW own index ci k) (hfin : (T k).2.2.2 = true) (hin2 : meth.name = "<init>") (hdecl : (T k).1 = own) (hte : ty0 k = ty) (hna : narrow ty v = v) (hfi : fits ty v = true)
    (hL : L r q) (hr : r ≠ 12) (hk : kd r q = (ci, N)) (hci : ci < 10) (hdg : decode cc pc = .ok (.putfield index, 3))
    (kk : ∀ (H1 : Heap) (locs1 : List Loc), BW E s H1 locs1 (vs V r q (updV (V r q) k v)) L n → W p l e R s m args below meth c H1 locs1 cells slots Q (F0 m (pc + 3) ls rest)) : W p l e R s m args below meth c H locs cells slots Q (F0 m pc ls (v :: .ref (ea E r q) :: rest)) := by
  obtain ⟨⟨C2, T2, N2⟩, hc1, hk1, hl, hin, hsm⟩ := hf
  cases Option.some.inj (hc.symm.trans hc1)
  dsimp only at hk1 hl hin hsm
  obtain ⟨b1, b2, b3⟩ := hB
  obtain ⟨hlv, hcv⟩ := b1 r q hL
  have hcv2 := hcv
  unfold cellV at hcv2
  rw [hk, if_pos hci] at hcv2
  obtain ⟨q', hq1, hob⟩ := hcv2
  obtain rfl : q' = (C, T, N) := Option.some.inj (hq1.symm.trans hc)
  have hts := F.2.2.2.2
  have hap := va_apart (own := own) hts hin ty0 hty hnm hT.K hc
  obtain ⟨cell, q1, q2, q3, q4⟩ := hob
  obtain ⟨hS, hfc, kC, hkC, hkind⟩ := hT.K.1 ci _ hc
  obtain ⟨cf, kf, fi, f, hi, hsl⟩ := hS k hk1
  have hlay := hts _ (hin _ (u_in_lay hk1))
  unfold u_lay at hlay
  rw [if_pos hfin] at hlay
  have hst := (u_facts hfc hkC (u_lays hts hin hk1) hi).1
  have hcf : m.cls = cf := by
    obtain ⟨_, _, c', _, _, _, -, -, hf', -, -, -, hown2, -⟩ := Cond.laysFinal_spec hlay
    have e1 : c' = cf := by have := hi.symm.trans hf'; simp at this; exact this.1.symm
    rw [hdecl] at hown2
    rw [← e1]; exact Option.some.inj (F.2.2.2.1.symm.trans hown2)
  have h6 := u_fits hfc hkC hkind (Or.inr hlay) hi (by rw [hty k hk1, hte]) hna hfi
  have hi2 : s.fieldFound? C (T k).2.1 (T k).2.2.1 = some (cf, kf, fi, f) := by rw [hsm] at hi; exact hi
  refine W.putFinK F.1 F.2.1 F.2.2.2.1 (hts _ hl) hi2 hst hcf hin2 (by rw [q2]; exact h6) q1 q3 (by rw [hsl]; exact k2_hasslot (q4 k hk1)) rfl rfl hdg fun H' e1 e2 e3 => ?_
  rw [hsl] at e1 ⊢
  refine kk H' _ ⟨b1.upd hT.2.1 hL ?_ e3, b2.put e2 e3 ⟨r, q, ⟨hlv, hr⟩, rfl⟩, e2.trans b3⟩
  unfold cellV
  rw [hk, if_pos hci]
  exact ⟨_, hc, ⟨_, e1, q2, q3, t_set q4 hap hk1 _⟩⟩
/-- a reference is read from a field -/
theorem bgetR {index r q k ci N r' q' : Nat} (F : CallFix p m c cc nL s args TB own) (hT : Stat E s) (hB : BW E s H locs V L n) (hf : FW own index ci k) (hL : L r q) (hk : kd r q = (ci, N)) (hc : ci < 10) (hn : V r q k = .ref (ea E r' q')) (hdg : decode cc pc = .ok (.getfield index, 3))
    (kk : W p l e R s m args below meth c H locs cells slots Q (F0 m (pc + 3) ls (.ref (ea E r' q') :: rest))) : W p l e R s m args below meth c H locs cells slots Q (F0 m pc ls (.ref (ea E r q) :: rest)) := by
  obtain ⟨⟨C, T, N'⟩, hc1, hk1, hl, hin, hsm⟩ := hf
  obtain ⟨hlv, hcv⟩ := hB.1 r q hL
  unfold cellV at hcv
  rw [hk, if_pos hc] at hcv
  obtain ⟨q2, hq1, hob⟩ := hcv
  obtain rfl : q2 = (C, T, N') := Option.some.inj (hq1.symm.trans hc1)
  dsimp only at hk1 hl hin hsm hob
  refine va_get (D := E.1) (cl := kcl) (ws := [(ea E r q, .inr (ci, (List.range N').map (V r q)))]) F.1 F.2.1 F.2.2.2.2 hin F.2.2.2.1 hT.K (fun j x hx => ?_) 0 rfl hc1 k hk1 (F.2.2.2.2 _ hl) (fun x hx => by rw [hsm] at hx; exact hx) (v := .ref (ea E r' q')) ?_ hdg kk
  · have hz : j < 1 := (List.getElem?_eq_some_iff.mp hx).1
    rw [show j = 0 by omega] at hx
    cases hx
    exact ⟨_, hc1, hob.to (fun j hj => by simp [vp_V, hj])⟩
  · simp [hk1, hn]
/-- a laid object is put into a laid array -/
theorem bastq {r q j t N r' q' ci : Nat} {C : String} {T : u_T} {M : Nat} {x : Int32} (F : CallFix p m c cc nL s args TB own) (hT : Stat E s) (hB : BW E s H locs V L n) (hty : (tyL E)[t]? = some (E.2.1 t, .object C)) (hc : kcl[ci]? = some (C, T, M)) (hL : L r q) (hr : r ≠ 12) (hk : kd r q = (10 + t, N)) (hL2 : L r' q') (hk2 : kd r' q' = (ci, M)) (hci : ci < 10) (hj : j < N) (hN : N < 2 ^ 31) (hx : x = nI j) (hdg : decode cc pc = .ok (.aastore, 1))
    (kk : ∀ (H1 : Heap) (locs1 : List Loc), BW E s H1 locs1 (vs V r q (updV (V r q) j (.ref (ea E r' q')))) L n → W p l e R s m args below meth c H1 locs1 cells slots Q (F0 m (pc + 1) ls rest)) : W p l e R s m args below meth c H locs cells slots Q (F0 m pc ls (.ref (ea E r' q') :: .int x :: .ref (ea E r q) :: rest)) := by
  subst hx
  obtain ⟨b1, b2, b3⟩ := hB
  obtain ⟨hlv, hcv⟩ := b1 r q hL
  obtain ⟨hlv2, hcv2⟩ := b1 r' q' hL2
  unfold cellV at hcv hcv2
  rw [hk, if_neg (by show ¬ 10 + t < 10; omega), show ((10 + t, N) : Nat × Nat).1 - 10 = t by show 10 + t - 10 = t; omega] at hcv
  have hcv := hcv.eq hr
  rw [hk2, if_pos hci] at hcv2
  obtain ⟨q2, hq1, cellV2, g1, g2, g3, -⟩ := hcv2
  have hcls := (hT.K.1 ci _ hc).2
  obtain ⟨kA, comp, k1, k2, k3, -⟩ := (hT.K.2 t _ hty).2
  have hcomp : comp = E.1.1 ci := Option.some.inj (k3.symm.trans hcls.1)
  subst hcomp
  obtain ⟨kC, hkC, -⟩ := hcls.2
  have hcl : (nI j).toNatClampNeg = j := nI_clamp (Nat.lt_trans hj hN)
  refine W.aast F.1 F.2.1 hcv (fun q h => by cases h) (fun h => by cases h) k1 k2 rfl hkC ⟨nI_nneg (Nat.lt_trans hj hN), by show _ < (arrV _ _ _).slots.size; rw [arrV_size, hcl]; exact hj⟩ g1 (fun q h => by rw [g3] at h; cases h) (by rw [g2]; exact hkC) (by rw [g2]; exact va_assign hcls) rfl rfl hdg fun H1 e z oq => ?_
  refine kk H1 _ ⟨b1.upd hT.2.1 hL ?_ oq, b2.put z oq ⟨r, q, ⟨hlv, hr⟩, rfl⟩, z.trans b3⟩
  unfold cellV
  rw [hk, if_neg (by show ¬ 10 + t < 10; omega), show ((10 + t, N) : Nat × Nat).1 - 10 = t by show 10 + t - 10 = t; omega]
  refine arA.of ?_
  rw [e, hcl, arrV_store]
theorem balen {r q t N : Nat} {ty : FieldType} {x : Int32} (F : CallFix p m c cc nL s args TB own) (hT : Stat E s) (hB : BW E s H locs V L n) (hL : L r q) (hk : kd r q = (10 + t, N)) (ht : (tyL E)[t]? = some (E.2.1 t, ty)) (hx : nI N = x) (hdg : decode cc pc = .ok (.arraylength, 1))
    (kk : W p l e R s m args below meth c H locs cells slots Q (F0 m (pc + 1) ls (.int x :: rest))) : W p l e R s m args below meth c H locs cells slots Q (F0 m pc ls (.ref (ea E r q) :: rest)) := by
  subst hx
  obtain ⟨hlv, hcv⟩ := hB.1 r q hL
  unfold cellV at hcv
  rw [hk, if_neg (by show ¬ 10 + t < 10; omega), show ((10 + t, N) : Nat × Nat).1 - 10 = t by show 10 + t - 10 = t; omega] at hcv
  obtain ⟨cell, c1, c2, c3, c4, c5⟩ := hcv.ex
  exact W.alen (n := nI N) F.1 F.2.1 c1 ⟨c4, by rw [c2]; exact (ArrOf_t hT t ht N (V r q)).2⟩ (by rw [c3, arrV_size] <;> rfl) rfl rfl hdg kk
end ROWSB
end
section
/-! a static array cloned; the words of the constructors -/
theorem cz_L : Cond.initialized RL ∈ TB := tb_in 27 (by decide +kernel) rfl
theorem cz_X6 : Cond.initialized RX6 ∈ TB := tb_in 28 (by decide +kernel) rfl
theorem cz_X3 : Cond.initialized RX3 ∈ TB := tb_in 29 (by decide +kernel) rfl
theorem cz_X1 : Cond.initialized RX1 ∈ TB := tb_in 30 (by decide +kernel) rfl
theorem cz_X5 : Cond.initialized RX5 ∈ TB := tb_in 31 (by decide +kernel) rfl
theorem cz_X4 : Cond.initialized RX4 ∈ TB := tb_in 32 (by decide +kernel) rfl
theorem cz_X0 : Cond.initialized RX0 ∈ TB := tb_in 33 (by decide +kernel) rfl
theorem cz_X2 : Cond.initialized RX2 ∈ TB := tb_in 34 (by decide +kernel) rfl
theorem cz_X7 : Cond.initialized RX7 ∈ TB := tb_in 35 (by decide +kernel) rfl
theorem cl_L_7 : Cond.classLink RL 7 RX6 ∈ TB := tb_in 37 (by decide +kernel) rfl
theorem ci_X6 : Cond.instantiable RX6 6 ∈ TB := tb_in 38 (by decide +kernel) rfl
theorem co_X6 : Cond.methodLink RX6 1 Lib.objectInit ∈ TB := tb_in 42 (by decide +kernel) rfl
theorem cl_X6_7 : Cond.classLink RX6 7 RX3 ∈ TB := tb_in 45 (by decide +kernel) rfl
theorem ci_X3 : Cond.instantiable RX3 11 ∈ TB := tb_in 46 (by decide +kernel) rfl
theorem co_X3 : Cond.methodLink RX3 3 Lib.objectInit ∈ TB := tb_in 50 (by decide +kernel) rfl
theorem cl_X3_14 : Cond.classLink RX3 14 "[I" ∈ TB := tb_in 59 (by decide +kernel) rfl
theorem cl_X3_23 : Cond.classLink RX3 23 RX1 ∈ TB := tb_in 60 (by decide +kernel) rfl
theorem ci_X1 : Cond.instantiable RX1 16 ∈ TB := tb_in 62 (by decide +kernel) rfl
theorem co_X1 : Cond.methodLink RX1 3 Lib.objectInit ∈ TB := tb_in 66 (by decide +kernel) rfl
theorem ca_int : Cond.arrayClass (newarray.typeOf .int) ∈ TB := tb_in 124 (by decide +kernel) rfl
theorem cl_X3_30 : Cond.classLink RX3 30 RX5 ∈ TB := tb_in 125 (by decide +kernel) rfl
theorem ci_X5 : Cond.instantiable RX5 3 ∈ TB := tb_in 127 (by decide +kernel) rfl
theorem co_X5 : Cond.methodLink RX5 3 Lib.objectInit ∈ TB := tb_in 131 (by decide +kernel) rfl
theorem cl_X3_37 : Cond.classLink RX3 37 RX4 ∈ TB := tb_in 145 (by decide +kernel) rfl
theorem ci_X4 : Cond.instantiable RX4 4 ∈ TB := tb_in 147 (by decide +kernel) rfl
theorem co_X4 : Cond.methodLink RX4 3 Lib.objectInit ∈ TB := tb_in 151 (by decide +kernel) rfl
theorem cl_X6_27 : Cond.classLink RX6 27 RX0 ∈ TB := tb_in 205 (by decide +kernel) rfl
theorem ci_X0 : Cond.instantiable RX0 3 ∈ TB := tb_in 206 (by decide +kernel) rfl
theorem co_X0 : Cond.methodLink RX0 3 Lib.objectInit ∈ TB := tb_in 210 (by decide +kernel) rfl
theorem cl_X0_9 : Cond.classLink RX0 9 RX3 ∈ TB := tb_in 211 (by decide +kernel) rfl
theorem ca_boolean : Cond.arrayClass (newarray.typeOf .boolean) ∈ TB := tb_in 224 (by decide +kernel) rfl
theorem cl_X6_34 : Cond.classLink RX6 34 RX2 ∈ TB := tb_in 225 (by decide +kernel) rfl
theorem ci_X2 : Cond.instantiable RX2 2 ∈ TB := tb_in 226 (by decide +kernel) rfl
theorem co_X2 : Cond.methodLink RX2 3 Lib.objectInit ∈ TB := tb_in 230 (by decide +kernel) rfl
theorem ca_char : Cond.arrayClass (newarray.typeOf .char) ∈ TB := tb_in 239 (by decide +kernel) rfl
theorem cl_L_10 : Cond.classLink RL 10 RX7 ∈ TB := tb_in 633 (by decide +kernel) rfl
theorem ci_X7 : Cond.instantiable RX7 13 ∈ TB := tb_in 634 (by decide +kernel) rfl
theorem co_X7 : Cond.methodLink RX7 1 Lib.objectInit ∈ TB := tb_in 638 (by decide +kernel) rfl
theorem co_im : Cond.instanceMethod Lib.objectInit ∈ TB := tb_in 43 (by decide +kernel) rfl
theorem co_cd : Cond.code Lib.objectInit ⟨#[0xb1]⟩ 1 none ∈ TB := tb_in 44 (by decide +kernel) rfl
section ROWSC
variable {p : Program} {l : Launch} {e : Env} {R : Room} {s : State} {m : MethodId} {args : Array Value} {below : List Frame} {meth : Method} {c : Code} {H : Heap} {locs : List Loc} {cells slots : Nat} {Q : State → Prop}
variable {cc : ByteArray} {nL pc : Nat} {ls : Array Slot} {rest : List Value} {own : String} {E : mE} {V : Vs} {L : Nat → Nat → Prop} {n : Nat}
theorem cw_sm : Cond.sameMethod "[I" "java/lang/Object" "clone" "()Ljava/lang/Object;" ∈ TB := tb_in 54 (by decide +kernel) rfl
theorem cw_na : Cond.native ⟨"java/lang/Object", "clone", "()Ljava/lang/Object;"⟩ ∈ TB := tb_in 55 (by decide +kernel) rfl
theorem cw_im : Cond.instanceMethod ⟨"java/lang/Object", "clone", "()Ljava/lang/Object;"⟩ ∈ TB := tb_in 56 (by decide +kernel) rfl
theorem cw_se : Cond.selects "[I" ⟨"[I", "clone", "()Ljava/lang/Object;"⟩ ⟨"java/lang/Object", "clone", "()Ljava/lang/Object;"⟩ ∈ TB := tb_in 57 (by decide +kernel) rfl
theorem bclone {index r q r' q' N : Nat} {f : Nat → Int32} (F : CallFix p m c cc nL s args TB own) (hml : nL = ls.size) (hT : Stat E s) (hB : BW E s H locs V L n) (hlink : Cond.methodLink own index ⟨"[I", "clone", "()Ljava/lang/Object;"⟩ ∈ TB)
    (hL : L r' q') (hk : kd r' q' = (10, N)) (hv : V r' q' = fun j => .int (f j)) (hea : ea E r q = n) (hl : live r q) (hk2 : kd r q = (10, N)) (hframes : 1 ≤ R.frames) (hlocals : (rest.map fun v => v.category).sum + 14 ≤ R.locals) (hcells : cells + 1 ≤ R.cells) (hslots : slots + N ≤ R.slots) (hdg : decode cc pc = .ok (.invokevirtual index, 3))
    (kk : ∀ H1 : Heap, BW E s H1 locs (vs V r q (fun j => .int (f j))) (fun a b => L a b ∨ (a = r ∧ b = q)) (n + 1) → W p l e R s m args below meth c H1 locs (cells + 1) (slots + N) Q (F0 m (pc + 3) ls (.ref (ea E r q) :: rest))) : W p l e R s m args below meth c H locs cells slots Q (F0 m pc ls (.ref (ea E r' q') :: rest)) := by
  have hts := F.2.2.2.2
  obtain ⟨b1, b2, b3⟩ := hB
  have hcv := (b1 r' q' hL).2
  unfold cellV at hcv
  rw [hk, if_neg (by show ¬ 10 < 10; omega), show ((10, N) : Nat × Nat).1 - 10 = 0 from rfl, hv] at hcv
  have hA0 := hT.K.2 0 (E.2.1 0, .int) rfl
  have hnm : s.vm.findClass "[I" = some (E.2.1 0) := va_nm_int hA0.2
  obtain ⟨c0, t0', f1, f2, f3⟩ := Cond.castable_spec (va_Nw.use (A := args) rfl hT.1.2.2.2.2)
  cases hnm.symm.trans f1
  intro T hT2 X
  obtain ⟨cell, y1, y2, y3, y4, y5⟩ := hcv.ex
  have hcellT : T.heap[ea E r' q']? = some cell := by rw [hT2]; exact y1
  have hnew : ({ cls := cell.cls, slots := cell.slots } : Cell) = arrV (E.2.1 0) N (fun j => .int (f j)) := by rw [y2, y3]; rfl
  obtain ⟨-, kA, hkA, comp, hkind⟩ := State.isArrayOf_alike X.warmed.alike (hA0.1 0 (fun _ => .null))
  obtain ⟨-, kS, hkS, compS, hkindS⟩ := hA0.1 0 (fun _ => .null)
  obtain ⟨vm', X', st⟩ := X.cloneArray F.1 F.2.2.2.1 (hts _ hlink) (hts _ cw_sm) (hts _ cw_na) (hts _ cw_im) (hts _ cw_se) (a := ea E r' q') (cell := cell) hcellT y4 y5 (by rw [y2]; exact hnm) f2 (by rw [y2]; exact f3)
    (fun i v hv2 => by
      rw [y3] at hv2
      rw [y2]
      have hk' : T.vm.classes[E.2.1 0]? = some kA := hkA
      have hf : fits .int v = true := va_fit (F := fun j => .int (f j)) (fun i _ => rfl) i v hv2
      simpa [State.fitsSlot, State.slotType?, arrV, hk', hkind] using hf)
    (g := F0 m pc ls (.ref (ea E r' q') :: rest)) rfl (by rw [F.2.2.1, hml]) rfl (by rw [F.2.1]; exact hdg) hframes (by show 2 * 0 + _ + 14 ≤ _; omega) hcells (by rw [y3, arrV_size]; exact hslots) (hloader := by rw [y2]; exact Vm.clonesLoader_of_array hkS hkindS)
  rw [hnew, y3, arrV_size] at X'
  rw [hnew] at st
  generalize hH1 : H.push (arrV (E.2.1 0) N (fun j => .int (f j))) = H1
  have z1 : H1.size = H.size + 1 := by rw [← hH1, Array.size_push]
  have e1 : H1[H.size]? = some (arrV (E.2.1 0) N (fun j => .int (f j))) := by rw [← hH1, Array.getElem?_push_size]
  have o1 : ∀ q : Nat, q < H.size → H1[q]? = H[q]? := fun q hq => by rw [← hH1, Array.getElem?_push, if_neg (Nat.ne_of_lt hq)]
  have hs : H.size = ea E r q := b3.trans hea.symm
  obtain ⟨t, a1, a2⟩ := kk H1 ⟨b1.push hl (by
    unfold cellV
    rw [hk2, if_neg (by show ¬ 10 < 10; omega), show ((10, N) : Nat × Nat).1 - 10 = 0 from rfl, ← hs]
    exact arA.of e1) o1, bS b2 z1 o1, by omega⟩ ((T.setVm vm').pushCell (arrV (E.2.1 0) N (fun j => .int (f j)))) (by rw [← hH1, ← hT2]; rfl) X'
  refine ⟨t, st t ?_, a2⟩
  rw [hT2, hs]
  exact a1
theorem bcast {index r q N : Nat} {f : Nat → Int32} (F : CallFix p m c cc nL s args TB own) (hT : Stat E s) (hB : BW E s H locs V L n) (hlink : Cond.classLink own index "[I" ∈ TB) (hL : L r q) (hr : r ≠ 12) (hk : kd r q = (10, N)) (hv : V r q = fun j => .int (f j)) (hdg : decode cc pc = .ok (.checkcast index, 3))
    (k : W p l e R s m args below meth c H locs cells slots Q (F0 m (pc + 3) ls (.ref (ea E r q) :: rest))) : W p l e R s m args below meth c H locs cells slots Q (F0 m pc ls (.ref (ea E r q) :: rest)) := by
  have hcv := (hB.1 r q hL).2
  unfold cellV at hcv
  rw [hk, if_neg (by show ¬ 10 < 10; omega), show ((10, N) : Nat × Nat).1 - 10 = 0 from rfl, hv] at hcv
  have hcv := hcv.eq hr
  have hnm : s.vm.findClass "[I" = some (E.2.1 0) := va_nm_int (hT.K.2 0 (E.2.1 0, .int) rfl).2
  exact va_castA (D := E.1) (cl := kcl) (ws := [(ea E r q, .inl (E.2.1 0, (N, .inl f)))]) F.1 F.2.1 F.2.2.2.1 (F.2.2.2.2 _ hlink) (fun j x hx => by
    have hz : j < 1 := (List.getElem?_eq_some_iff.mp hx).1
    rw [show j = 0 by omega] at hx
    cases hx
    exact hcv) 0 rfl hnm hdg k
theorem bobj {index r q : Nat} (F : CallFix p m c cc nL s args TB own) (hml : ls.size = nL) (hlink : Cond.methodLink own index Lib.objectInit ∈ TB) (hframes : 1 ≤ R.frames) (hlocals : (rest.map fun v => v.category).sum + 12 ≤ R.locals) (hdg : decode cc pc = .ok (.invokespecial index, 3))
    (k : W p l e R s m args below meth c H locs cells slots Q (F0 m (pc + 3) ls rest)) : W p l e R s m args below meth c H locs cells slots Q (F0 m pc ls (.ref (ea E r q) :: rest)) :=
  W.objInit F.1 F.2.1 F.2.2.2.1 (F.2.2.2.2 _ hlink) (F.2.2.2.2 _ co_im) (F.2.2.2.2 _ co_cd) rfl (hml.trans F.2.2.1.symm) rfl hdg hframes (by show 2 * 0 + _ + 12 ≤ _; omega) k
end ROWSC
end
section
/-! contracts of constructors -/
abbrev rmC (fr lo mc ms : Nat) : Room := { frames := fr, cells := mc, slots := ms, locals := lo }
abbrev Pb (E : mE) (av : List Value) (V : Vs) (L : Nat → Nat → Prop) (n : Nat) : Array Value → State → Prop := va_Pc av (fun U => Stat E U ∧ PB E V L U.heap ∧ U.heap.size = n)
abbrev Qb (E : mE) (V : Vs) (L : Nat → Nat → Prop) (n : Nat) : Array Value → State → Outcome → State → Prop := va_Qv (fun _ : Unit => True) (fun _ t => PB E V L t.heap ∧ t.heap.size = n) (AA E)
abbrev CtB (l : Launch) (E : mE) (y : MethodName) (cd : ByteArray) (mL : Nat) (fr lo mc ms : Nat) (av : List Value) (V : Vs) (L : Nat → Nat → Prop) (n : Nat) (V' : Vs) (L' : Nat → Nat → Prop) (n' : Nat) : Prop := Met l y (Cond.code y cd mL none :: TB) (rmC fr lo mc ms) (Pb E av V L n) (Qb E V' L' n') mc ms (AA E)
theorem Pb_blind {E : mE} {av : List Value} {V : Vs} {L : Nat → Nat → Prop} {n : Nat} : FrameBlind (Pb E av V L n) := fun a U g mk q => ⟨q.1, q.2.1.same rfl rfl, q.2.2⟩
theorem bMet {l : Launch} {E : mE} {y : MethodName} {cd : ByteArray} {mL : Nat} {fr lo mc ms : Nat} {av : List Value} {V : Vs} {L : Nat → Nat → Prop} {n : Nat} {Qc : Array Value → State → Outcome → State → Prop} (hy : plainName y.cls = true) (hlen : (lg_sl av).length ≤ mL)
    (body : ∀ (p : Program) (e : Env) (s : State) (m : MethodId) (below : List Frame) (meth : Method) (c : Code) (ls : Array Slot), CallFix p m c cd mL s av.toArray TB y.cls → Stat E s → meth.sig.returnType = none → meth.locks = false → meth.name = y.name → BW E s s.heap [] V L n → lv_has ls mL (lv_args 0 av) → W p l e (rmC fr lo mc ms) s m av.toArray below meth c s.heap [] 0 0 (MQ below Qc av.toArray s mc ms (AA E)) (F0 m 0 ls [])) :
    Met l y (Cond.code y cd mL none :: TB) (rmC fr lo mc ms) (Pb E av V L n) Qc mc ms (AA E) := by
  refine Met.ofW (cc := cd) (maxL := mL) (ret := none) hy rfl ?_
  intro p e s m args below meth c s₁ B hml hv
  obtain ⟨rfl, hT, hM, hn⟩ := hv
  have hts := atoms_spec (ws := Cond.code y cd mL none :: TB) B.pre
  rw [lg_entry_eq]
  exact body p e s m below meth c _ ⟨B.exec, B.bytes, hml, findClass_of_methodNamed B.named, fun w hw => hts w (List.mem_cons_of_mem _ hw)⟩ hT B.returns B.notSynchronized (name_of_methodNamed B.named B.method).1 ⟨hM, va_S.rf, hn⟩ (lv_entry av hlen)
section BEND
variable {p : Program} {l : Launch} {e : Env} {R : Room} {s : State} {m : MethodId} {args : Array Value} {below : List Frame} {meth : Method} {c : Code} {H : Heap} {locs : List Loc} {cells slots : Nat} {Q : State → Prop}
variable {cc : ByteArray} {nL pc : Nat} {ls : Array Slot} {rest st0 : List Value} {own : String} {E : mE} {V V' : Vs} {L L' : Nat → Nat → Prop} {n n' mc ms : Nat}
theorem brv (F : CallFix p m c cc nL s args TB own) (hr : meth.sig.returnType = none) (hlk : meth.locks = false) (hB : BW E s H locs V L n) (hdg : decode cc pc = .ok (.return_, 1)) (hv : ∀ r q, L' r q → L r q ∧ V' r q = V r q) (hn : n = n') (hc : cells = mc) (hs : slots = ms) :
    W p l e R s m args below meth c H locs cells slots (MQ below (Qb E V' L' n') args s mc ms (AA E)) (F0 m pc ls []) := by
  subst hc hs hn
  exact W.vret F.1 F.2.1 hr (fun t ht _ => ⟨⟨(), rfl, trivial, (by subst ht; exact ⟨hB.1.to hv, hB.2.2⟩)⟩, hB.2.1.F ht⟩) hB.2.1.2.2 hdg hlk
variable {index : Nat} {y : MethodName} {cd : ByteArray} {mL k fr lo : Nat} {Qc : Array Value → State → Outcome → State → Prop} {As : List Value} {a : Nat}
theorem bpre (hT : Stat E s) (hB : BW E s H locs V L n) {av : List Value} : ∀ U : State, U.heap = H → s.WarmedH U.vm → Pb E av V L n av.toArray U := fun U hU hw => ⟨rfl, hT.moved hw hB.2.1 hU, by rw [hU]; exact hB.1, by rw [hU]; exact hB.2.2⟩
theorem brunI (F : CallFix p m c cc nL s args TB own) (hT : Stat E s) (hB : BW E s H locs V L n) (hY : YC y cd mL none 0) (hy : y.name = "<init>") (hI : Cond.instanceMethod y ∈ TB) (hl : Cond.methodLink own index y ∈ TB)
    (hM : CtB l E y cd mL fr lo mc ms [.ref a] V L n V' L' n') (hls : ls.size = nL) (hR : fr + 1 ≤ R.frames ∧ 8 + (mL + 11) + lo ≤ R.locals) (hcat : (rest.map fun v => v.category).sum ≤ 8) (hcs : cells + mc ≤ R.cells ∧ slots + ms ≤ R.slots) (hdg : decode cc pc = .ok (.invokespecial index, 3)) :
    va_Run p l e R s m args below meth c H locs cells slots mc ms (F0 m pc ls (.ref a :: rest)) rest (Qb E V' L' n' ([Value.ref a] : List Value).toArray) (AA E) :=
  va_runI (As := []) F hM ⟨callB_of 0 F.2.2.2.2 (tb_gin hY.1) rfl rfl rfl (F.2.2.2.2 _ hY.2.1) (F.2.2.2.2 _ hl) hY.2.2 hR, hy, F.2.2.2.2 _ hI⟩ ⟨Pb_blind, bpre hT hB⟩ rfl rfl hls rfl (lv_room hcat) hdg hcs
theorem brunIN (F : CallFix p m c cc nL s args TB own) (hT : Stat E s) (hB : BW E s H locs V L n) (hY : YC y cd mL none 0) (hy : y.name = "<init>") (hI : Cond.instanceMethod y ∈ TB) (hl : (own, index, y, "InterruptInn") ∈ nwM)
    (hM : CtB l E y cd mL fr lo mc ms [.ref a] V L n V' L' n') (hls : ls.size = nL) (hR : fr + 1 ≤ R.frames ∧ 8 + (mL + 11) + lo ≤ R.locals) (hcat : (rest.map fun v => v.category).sum ≤ 8) (hcs : cells + mc ≤ R.cells ∧ slots + ms ≤ R.slots) (hdg : decode cc pc = .ok (.invokespecial index, 3)) :
    va_Run p l e R s m args below meth c H locs cells slots mc ms (F0 m pc ls (.ref a :: rest)) rest (Qb E V' L' n' ([Value.ref a] : List Value).toArray) (AA E) :=
  va_runIN (As := []) F hM ⟨va_cnB 0 F.2.2.2.2 (tb_gin hY.1) rfl rfl rfl (hT.1.2.2.1 _ hl) (F.2.2.2.2 _ hY.2.1) hY.2.2 hR, hy, F.2.2.2.2 _ hI⟩ ⟨Pb_blind, bpre hT hB⟩ rfl rfl hls rfl (lv_room hcat) hdg hcs
theorem bcv {b : Array Value} (hr : va_Run p l e R s m args below meth c H locs cells slots mc ms (F0 m pc ls st0) rest (Qb E V' L' n' b) (AA E)) (hB : BW E s H locs V L n)
    (kk : ∀ (H1 : Heap) (locs1 : List Loc), BW E s H1 locs1 V' L' n' → W p l e R s m args below meth c H1 locs1 (cells + mc) (slots + ms) Q (F0 m (pc + 3) ls rest)) : W p l e R s m args below meth c H locs cells slots Q (F0 m pc ls st0) :=
  va_callv hr hB.2.1 (fun _ _ h => h) (fun _ h => h) (fun _ t H1 locs1 ht _ _ hP _ _ hS => kk H1 locs1 ⟨by rw [← ht]; exact hP.1, hS, by rw [← ht]; exact hP.2⟩)
end BEND
theorem c_X1_init (l : Launch) (E : mE) (V : Vs) (L : Nat → Nat → Prop) (n r q : Nat) : CtB l E yX1_init cX1_init 1 1 12 0 0 [.ref (ea E r q)] V L n V L n := by
  refine bMet (by decide +kernel) (Nat.le_of_ble_eq_true rfl) ?_
  intro p e s m below meth c ls F hT hr0 hlk hnm hB hl
  have F : CallFix p m c cX1_init 1 s _ TB RX1 := F
  have hl : lv_has ls 1 [(0, .ref (ea E r q))] := hl
  refine lv_aload_n F.1 F.2.1 dX1_init_0 rfl (lv_at hl 0 rfl) ?_
  refine bobj F hl.1 co_X1 (Nat.le_of_ble_eq_true rfl) (Nat.le_of_ble_eq_true rfl) dX1_init_1 ?_
  exact brv F hr0 hlk hB dX1_init_4 (fun _ _ h => ⟨h, rfl⟩) rfl rfl rfl
theorem c_X5_init (l : Launch) (E : mE) (V : Vs) (L : Nat → Nat → Prop) (n r q : Nat) : CtB l E yX5_init cX5_init 1 1 12 0 0 [.ref (ea E r q)] V L n V L n := by
  refine bMet (by decide +kernel) (Nat.le_of_ble_eq_true rfl) ?_
  intro p e s m below meth c ls F hT hr0 hlk hnm hB hl
  have F : CallFix p m c cX5_init 1 s _ TB RX5 := F
  have hl : lv_has ls 1 [(0, .ref (ea E r q))] := hl
  refine lv_aload_n F.1 F.2.1 dX5_init_0 rfl (lv_at hl 0 rfl) ?_
  refine bobj F hl.1 co_X5 (Nat.le_of_ble_eq_true rfl) (Nat.le_of_ble_eq_true rfl) dX5_init_1 ?_
  exact brv F hr0 hlk hB dX5_init_4 (fun _ _ h => ⟨h, rfl⟩) rfl rfl rfl
theorem c_X4_init (l : Launch) (E : mE) (V : Vs) (L : Nat → Nat → Prop) (n r q : Nat) : CtB l E yX4_init cX4_init 1 1 12 0 0 [.ref (ea E r q)] V L n V L n := by
  refine bMet (by decide +kernel) (Nat.le_of_ble_eq_true rfl) ?_
  intro p e s m below meth c ls F hT hr0 hlk hnm hB hl
  have F : CallFix p m c cX4_init 1 s _ TB RX4 := F
  have hl : lv_has ls 1 [(0, .ref (ea E r q))] := hl
  refine lv_aload_n F.1 F.2.1 dX4_init_0 rfl (lv_at hl 0 rfl) ?_
  refine bobj F hl.1 co_X4 (Nat.le_of_ble_eq_true rfl) (Nat.le_of_ble_eq_true rfl) dX4_init_1 ?_
  exact brv F hr0 hlk hB dX4_init_4 (fun _ _ h => ⟨h, rfl⟩) rfl rfl rfl
end
section
/-! class Server's constructor, class Pad's -/
theorem updV_at (f : Nat → Value) (k : Nat) (v : Value) : updV f k v k = v := by simp [updV]
def SVf (E : mE) (r : Nat) (d : Nat → Value) (a b c : Nat) (q : Nat) : Nat → Value := fun k => if q = 0 then d k else if q = 1 then .int (vFst k) else if q = 2 then (if k < a then .ref (ea E r (3 + k)) else .null) else if q = 15 then (if k < b then .ref (ea E r (16 + k)) else .null) else if q = 22 then (if k < c then .ref (ea E r (23 + k)) else .null) else .int 0
def VSr (V : Vs) (E : mE) (r : Nat) (d : Nat → Value) (a b c : Nat) : Vs := fun r' q' => if r' = r then SVf E r d a b c q' else V r' q'
def LSr (L : Nat → Nat → Prop) (r m : Nat) : Nat → Nat → Prop := fun r' q' => L r' q' ∨ (r' = r ∧ 1 ≤ q' ∧ q' < m)
theorem dfl1 (k : Nat) : defaultValue (tyX1 k) = .int 0 := by unfold tyX1; split <;> rfl
theorem dfl5 (k : Nat) : defaultValue (tyX5 k) = .int 0 := by unfold tyX5; split <;> rfl
theorem dfl4 (k : Nat) : defaultValue (tyX4 k) = .int 0 := by unfold tyX4; split <;> rfl
theorem st1 {V : Vs} {E : mE} {r : Nat} {d : Nat → Value} {L : Nat → Nat → Prop} {b c j : Nat} (hj : j < 12) : ∀ r' q', LSr L r (3 + (j + 1)) r' q' → (LSr L r (3 + j) r' q' ∨ (r' = r ∧ q' = 3 + j)) ∧ VSr V E r d (j + 1) b c r' q' = vs (vs (VSr V E r d j b c) r (3 + j) (fun k => defaultValue (tyX1 k))) r 2 (updV ((vs (VSr V E r d j b c) r (3 + j) (fun k => defaultValue (tyX1 k))) r 2) j (.ref (ea E r (3 + j)))) r' q' := by
  intro r' q' h
  refine ⟨?_, ?_⟩
  · rcases h with h | ⟨h1, h2, h3⟩
    · exact Or.inl (Or.inl h)
    · by_cases hq : q' = 3 + j
      · exact Or.inr ⟨h1, hq⟩
      · exact Or.inl (Or.inr ⟨h1, h2, by omega⟩)
  · by_cases hr : r' = r
    · subst hr
      by_cases h2 : q' = 2
      · subst h2
        rw [vs_at, vs_ne _ _ (by omega)]
        funext k
        by_cases hk : k = j
        · subst hk
          rw [updV_at]
          simp [VSr, SVf]
        · simp only [updV, if_neg hk, VSr, SVf, if_true]
          by_cases hkj : k < j
          · simp [hkj, Nat.lt_succ_of_lt hkj]
          · have : ¬ k < j + 1 := by omega
            simp [hkj, this]
      · rw [vs_ne _ _ (by omega)]
        by_cases h3 : q' = 3 + j
        · subst h3
          rw [vs_at]
          funext k
          rw [dfl1]
          simp only [VSr, SVf, if_true]
          rw [if_neg (by omega), if_neg (by omega), if_neg (by omega), if_neg (by omega), if_neg (by omega)]
        · rw [vs_ne _ _ (by omega)]
          simp only [VSr, if_true]
          funext k
          unfold SVf
          simp only [h2, if_false]
    · rw [vs_ne _ _ (by omega), vs_ne _ _ (by omega)]
      simp only [VSr, if_neg hr]
theorem st2 {V : Vs} {E : mE} {r : Nat} {d : Nat → Value} {L : Nat → Nat → Prop} {a c j : Nat} (hj : j < 6) : ∀ r' q', LSr L r (16 + (j + 1)) r' q' → (LSr L r (16 + j) r' q' ∨ (r' = r ∧ q' = 16 + j)) ∧ VSr V E r d a (j + 1) c r' q' = vs (vs (VSr V E r d a j c) r (16 + j) (fun k => defaultValue (tyX5 k))) r 15 (updV ((vs (VSr V E r d a j c) r (16 + j) (fun k => defaultValue (tyX5 k))) r 15) j (.ref (ea E r (16 + j)))) r' q' := by
  intro r' q' h
  refine ⟨?_, ?_⟩
  · rcases h with h | ⟨h1, h2, h3⟩
    · exact Or.inl (Or.inl h)
    · by_cases hq : q' = 16 + j
      · exact Or.inr ⟨h1, hq⟩
      · exact Or.inl (Or.inr ⟨h1, h2, by omega⟩)
  · by_cases hr : r' = r
    · subst hr
      by_cases h2 : q' = 15
      · subst h2
        rw [vs_at, vs_ne _ _ (by omega)]
        funext k
        by_cases hk : k = j
        · subst hk
          rw [updV_at]
          simp [VSr, SVf]
        · simp only [updV, if_neg hk, VSr, SVf, if_true]
          by_cases hkj : k < j
          · simp [hkj, Nat.lt_succ_of_lt hkj]
          · have : ¬ k < j + 1 := by omega
            simp [hkj, this]
      · rw [vs_ne _ _ (by omega)]
        by_cases h3 : q' = 16 + j
        · subst h3
          rw [vs_at]
          funext k
          rw [dfl5]
          simp only [VSr, SVf, if_true]
          rw [if_neg (by omega), if_neg (by omega), if_neg (by omega), if_neg (by omega), if_neg (by omega)]
        · rw [vs_ne _ _ (by omega)]
          simp only [VSr, if_true]
          funext k
          unfold SVf
          simp only [h2, if_false]
    · rw [vs_ne _ _ (by omega), vs_ne _ _ (by omega)]
      simp only [VSr, if_neg hr]
theorem st3 {V : Vs} {E : mE} {r : Nat} {d : Nat → Value} {L : Nat → Nat → Prop} {a b j : Nat} (hj : j < 8) : ∀ r' q', LSr L r (23 + (j + 1)) r' q' → (LSr L r (23 + j) r' q' ∨ (r' = r ∧ q' = 23 + j)) ∧ VSr V E r d a b (j + 1) r' q' = vs (vs (VSr V E r d a b j) r (23 + j) (fun k => defaultValue (tyX4 k))) r 22 (updV ((vs (VSr V E r d a b j) r (23 + j) (fun k => defaultValue (tyX4 k))) r 22) j (.ref (ea E r (23 + j)))) r' q' := by
  intro r' q' h
  refine ⟨?_, ?_⟩
  · rcases h with h | ⟨h1, h2, h3⟩
    · exact Or.inl (Or.inl h)
    · by_cases hq : q' = 23 + j
      · exact Or.inr ⟨h1, hq⟩
      · exact Or.inl (Or.inr ⟨h1, h2, by omega⟩)
  · by_cases hr : r' = r
    · subst hr
      by_cases h2 : q' = 22
      · subst h2
        rw [vs_at, vs_ne _ _ (by omega)]
        funext k
        by_cases hk : k = j
        · subst hk
          rw [updV_at]
          simp [VSr, SVf]
        · simp only [updV, if_neg hk, VSr, SVf, if_true]
          by_cases hkj : k < j
          · simp [hkj, Nat.lt_succ_of_lt hkj]
          · have : ¬ k < j + 1 := by omega
            simp [hkj, this]
      · rw [vs_ne _ _ (by omega)]
        by_cases h3 : q' = 23 + j
        · subst h3
          rw [vs_at]
          funext k
          rw [dfl4]
          simp only [VSr, SVf, if_true]
          rw [if_neg (by omega), if_neg (by omega), if_neg (by omega), if_neg (by omega), if_neg (by omega)]
        · rw [vs_ne _ _ (by omega)]
          simp only [VSr, if_true]
          funext k
          unfold SVf
          simp only [h2, if_false]
    · rw [vs_ne _ _ (by omega), vs_ne _ _ (by omega)]
      simp only [VSr, if_neg hr]
end
section
/-! class Server's constructor -/
theorem SVf_0 {E : mE} {r : Nat} {d : Nat → Value} {a b c : Nat} : SVf E r d a b c 0 = d := by
  funext k
  simp [SVf]
theorem SVf_1 {E : mE} {r : Nat} {d : Nat → Value} {a b c : Nat} : SVf E r d a b c 1 = fun j => .int (vFst j) := by
  funext k
  simp [SVf]
theorem SVf_2 {E : mE} {r : Nat} {d : Nat → Value} {b c : Nat} : SVf E r d 0 b c 2 = fun _ => .null := by
  funext k
  simp [SVf]
theorem SVf_15 {E : mE} {r : Nat} {d : Nat → Value} {a c : Nat} : SVf E r d a 0 c 15 = fun _ => .null := by
  funext k
  simp [SVf]
theorem SVf_22 {E : mE} {r : Nat} {d : Nat → Value} {a b : Nat} : SVf E r d a b 0 22 = fun _ => .null := by
  funext k
  simp [SVf]
theorem SVf_d {E : mE} {r q : Nat} {d d' : Nat → Value} {a b c : Nat} (h : ¬ q = 0) : SVf E r d a b c q = SVf E r d' a b c q := by
  funext k
  simp [SVf, h]
def d1 (E : mE) (r : Nat) (d : Nat → Value) : Nat → Value := updV (updV d 1 (.ref (ea E r 1))) 2 (.ref (ea E r 2))
def d2 (E : mE) (r : Nat) (d : Nat → Value) : Nat → Value := updV (d1 E r d) 4 (.ref (ea E r 15))
def d3 (E : mE) (r : Nat) (d : Nat → Value) : Nat → Value := updV (d2 E r d) 6 (.ref (ea E r 22))
theorem en1 {V : Vs} {E : mE} {r : Nat} {L : Nat → Nat → Prop} (hLr : ∀ q, L r q → q = 0) : ∀ r' q', LSr L r (3 + 0) r' q' → ((L r' q' ∨ (r' = r ∧ q' = 1)) ∨ (r' = r ∧ q' = 2)) ∧ VSr V E r (d1 E r (V r 0)) 0 0 0 r' q' =
    vs (vs (vs (vs V r 1 (fun j => .int (vFst j))) r 0 (updV ((vs V r 1 (fun j => .int (vFst j))) r 0) 1 (.ref (ea E r 1)))) r 2 (fun _ => .null)) r 0 (updV ((vs (vs (vs V r 1 (fun j => .int (vFst j))) r 0 (updV ((vs V r 1 (fun j => .int (vFst j))) r 0) 1 (.ref (ea E r 1)))) r 2 (fun _ => .null)) r 0) 2 (.ref (ea E r 2))) r' q' := by
  intro r' q' h
  have hq : r' = r → q' = 0 ∨ q' = 1 ∨ q' = 2 := fun e => by
    rcases h with h | ⟨h1, h2, h3⟩
    · exact Or.inl (hLr _ (e ▸ h))
    · omega
  refine ⟨?_, ?_⟩
  · rcases h with h | ⟨h1, h2, h3⟩
    · exact Or.inl (Or.inl h)
    · by_cases hq1 : q' = 1
      · exact Or.inl (Or.inr ⟨h1, hq1⟩)
      · exact Or.inr ⟨h1, by omega⟩
  · by_cases hr : r' = r
    · subst hr
      rcases hq rfl with rfl | rfl | rfl
      · simp [VSr, SVf_0, vs, d1]
      · simp [VSr, SVf_1, vs]
      · simp [VSr, SVf_2, vs]
    · simp [VSr, vs, hr]
theorem en2 {V : Vs} {E : mE} {r q0 f a b c : Nat} {d : Nat → Value} {L : Nat → Nat → Prop} (h0 : (q0 = 15 ∧ b = 0) ∨ (q0 = 22 ∧ c = 0)) : ∀ r' q', LSr L r (q0 + 1 + 0) r' q' → (LSr L r q0 r' q' ∨ (r' = r ∧ q' = q0)) ∧ VSr V E r (updV d f (.ref (ea E r q0))) a b c r' q' =
    vs (vs (VSr V E r d a b c) r q0 (fun _ => .null)) r 0 (updV ((vs (VSr V E r d a b c) r q0 (fun _ => .null)) r 0) f (.ref (ea E r q0))) r' q' := by
  intro r' q' h
  refine ⟨?_, ?_⟩
  · rcases h with h | ⟨h1, h2, h3⟩
    · exact Or.inl (Or.inl h)
    · by_cases hq1 : q' = q0
      · exact Or.inr ⟨h1, hq1⟩
      · exact Or.inl (Or.inr ⟨h1, h2, by omega⟩)
  · by_cases hr : r' = r
    · subst hr
      have h0' : ¬ 0 = q0 := by omega
      by_cases hq0 : q' = 0
      · subst hq0
        simp [VSr, SVf_0, vs, h0']
      · by_cases hq1 : q' = q0
        · subst hq1
          rcases h0 with ⟨rfl, rfl⟩ | ⟨rfl, rfl⟩
          · simp [VSr, SVf_15, vs]
          · simp [VSr, SVf_22, vs]
        · simp [VSr, vs, hq0, hq1]
          exact SVf_d hq0
    · simp [VSr, vs, hr]
section GSN
variable {p : Program} {l : Launch} {e : Env} {R : Room} {s : State} {m : MethodId} {args : Array Value} {below : List Frame} {meth : Method} {c : Code} {H : Heap} {locs : List Loc} {cells slots : Nat} {Q : State → Prop}
variable {cc : ByteArray} {nL pc : Nat} {ls : Array Slot} {rest : List Value} {own : String} {E : mE} {V : Vs} {L : Nat → Nat → Prop} {n index a : Nat} {nm : String}
theorem bgsN (F : CallFix p m c cc nL s args TB own) (hT : Stat E s) (hB : BW E s H locs V L n) (hZ : va_Z "InterruptInn" nm "[I" (.ref a) (AA E) s s.heap) (hl : (own, index, "InterruptInn", nm, "[I", "InterruptInn") ∈ nwF) (hdg : decode cc pc = .ok (.getstatic index, 3))
    (kk : W p l e R s m args below meth c H locs cells slots Q (F0 m (pc + 3) ls (.ref a :: rest))) : W p l e R s m args below meth c H locs cells slots Q (F0 m pc ls rest) :=
  va_getsN F.1 F.2.1 hZ hB.2.1 F.2.2.2.1 (va_Nw.use rfl (hT.1.2.1 _ hl)) (fun _ h => h) hdg kk
end GSN
set_option maxHeartbeats 4000000 in
set_option maxRecDepth 100000 in
theorem c_X3_init (l : Launch) (E : mE) (V : Vs) (L : Nat → Nat → Prop) (n r : Nat) (hr : r < 11) (hL0 : L r 0) (hLr : ∀ q, L r q → q = 0) (hF : L 12 0) (hFv : V 12 0 = fun j => .int (vFst j)) (hA : ∀ q, 1 ≤ q → q < 31 → ea E r q = n + (q - 1)) :
    CtB l E yX3_init cX3_init 2 2 60 30 275 [.ref (ea E r 0)] V L n (VSr V E r (d3 E r (V r 0)) 12 6 8) (LSr L r 31) (n + 30) := by
  refine bMet (by decide +kernel) (Nat.le_of_ble_eq_true rfl) ?_
  intro p e s m below meth c ls F hT hr0 hlk hnm hB hl
  have F : CallFix p m c cX3_init 2 s _ TB RX3 := F
  have hl : lv_has ls 2 [(0, .ref (ea E r 0))] := hl
  refine lv_aload_n F.1 F.2.1 dX3_init_0 rfl (lv_at hl 0 rfl) ?_
  refine bobj F hl.1 co_X3 (Nat.le_of_ble_eq_true rfl) (Nat.le_of_ble_eq_true rfl) dX3_init_1 ?_
  refine lv_aload_n F.1 F.2.1 dX3_init_4 rfl (lv_at hl 0 rfl) ?_
  refine bgsN F hT hB hT.2.2.1 (by decide +kernel) dX3_init_5 ?_
  refine bclone (r := r) (q := 1) (N := 7) F hl.1.symm hT hB ml_X3_13 hF rfl hFv (hA 1 (by decide) (by decide)) (oSet hr).1 (oSet hr).2 (by show 1 ≤ 2; decide) (by show 1 + 14 ≤ 60; decide) (by show 0 + 1 ≤ 30; decide) (by show 0 + 7 ≤ 275; decide) dX3_init_8 (fun H hB => ?_)
  refine bcast F hT hB cl_X3_14 (Or.inr ⟨rfl, rfl⟩) (rn12 hr) (oSet hr).2 (vs_at _ _ _ _) dX3_init_11 ?_
  refine bputF (ty := tyX3 1) F hT hB (rfl : kcl[3]? = some (RX3, TX3, 11)) tyX3_ok nmX3 fw_X3_18 rfl hnm rfl rfl rfl rfl (Or.inl hL0) (by omega) (oSrv hr).2 (by decide) dX3_init_14 (fun H locs hB => ?_)
  have hL3 : ∀ (fu j : Nat) (H : Heap) (locs : List Loc) (ls : Array Slot), j + fu = 8 → BW E s H locs (VSr V E r (d3 E r (V r 0)) 12 6 j) (LSr L r (23 + j)) (n + 22 + j) → lv_has ls 2 [(1, .int (nI j)), (0, .ref (ea E r 0))] → W p l e (rmC 2 60 30 275) s m ([.ref (ea E r 0)] : List Value).toArray below meth c H locs (22 + j) (243 + 4 * j) (MQ below (Qb E (VSr V E r (d3 E r (V r 0)) 12 6 8) (LSr L r 31) (n + 30)) ([.ref (ea E r 0)] : List Value).toArray s 30 275 (AA E)) (F0 m 100 ls []) := by
    intro fu
    induction fu with
    | zero =>
      intro j H locs ls hj hB hl
      obtain rfl : j = 8 := by omega
      refine lv_iload_n F.1 F.2.1 dX3_init_100 rfl (lv_at hl 0 rfl) ?_
      refine lv_bipush (v := 8) F.1 F.2.1 dX3_init_101 (by decide) ?_
      refine lv_icmp_ge (tgt := 125) F.1 F.2.1 dX3_init_103 (by decide) (fun h5 => ?_) (fun h5 => absurd (c_le (lI 8) rfl (by decide) (by decide)) h5)
      exact brv F hr0 hlk hB dX3_init_125 (fun _ _ h => ⟨h, rfl⟩) (by omega) rfl rfl
    | succ fu ih =>
      intro j H locs ls hj hB hl
      refine lv_iload_n F.1 F.2.1 dX3_init_100 rfl (lv_at hl 0 rfl) ?_
      refine lv_bipush (v := 8) F.1 F.2.1 dX3_init_101 (by decide) ?_
      refine lv_icmp_ge (tgt := 125) F.1 F.2.1 dX3_init_103 (by decide) (fun h5 => absurd h5 (c_nle (lI 8) rfl (by omega) (by omega))) (fun h5 => ?_)
      refine lv_aload_n F.1 F.2.1 dX3_init_106 rfl (lv_at hl 1 rfl) ?_
      refine bgetR (r' := r) (q' := 22) F hT hB fw_X3_39 (Or.inl hL0) (oSrv hr).2 (by decide) (by simp [VSr, SVf, d1, d2, d3, updV]) dX3_init_107 ?_
      refine lv_iload_n F.1 F.2.1 dX3_init_110 rfl (lv_at hl 0 rfl) ?_
      refine bnew (r := r) (q := 23 + j) F hT hB (rfl : kcl[4]? = some (RX4, TX4, 4)) tyX4_ok ls_4 cl_X3_37 ci_X4 cz_X4 (by rw [hA _ (by omega) (by omega)]; omega) (oSvc hr (by omega)).1 (oSvc hr (by omega)).2 (by decide) (by show 22 + j + 1 ≤ 30; omega) (by show 243 + 4 * j + 4 ≤ 275; omega) dX3_init_111 (fun H hB => ?_)
      refine lv_dup F.1 F.2.1 dX3_init_114 rfl ?_
      refine bcv (brunIN F hT hB yc_X4_init rfl yi_X4_init (by decide +kernel) (c_X4_init l E _ _ _ r (23 + j)) hl.1 ⟨Nat.le_of_ble_eq_true rfl, Nat.le_of_ble_eq_true rfl⟩ (Nat.le_of_ble_eq_true rfl) ⟨by show 22 + j + 1 + 0 ≤ 30; omega, by show 243 + 4 * j + 4 + 0 ≤ 275; omega⟩ dX3_init_115) hB (fun H locs hB => ?_)
      refine bastq (t := 5) (N := 8) F hT hB rfl (rfl : kcl[4]? = some (RX4, TX4, 4)) (Or.inl (Or.inr ⟨rfl, by omega, by omega⟩)) (by omega) (oNst hr).2 (Or.inr ⟨rfl, rfl⟩) (oSvc hr (by omega)).2 (by decide) (by omega : j < 8) (by decide) rfl dX3_init_118 (fun H locs hB => ?_)
      refine lv_iinc (v := nI (j + 1)) (lv' := [(1, .int (nI (j + 1))), (0, .ref (ea E r 0))]) F.1 F.2.1 dX3_init_119 hl (k := 0) rfl (ia rfl rfl) (by decide) rfl (fun ls hl => ?_)
      refine lv_goto (tgt := 100) F.1 F.2.1 dX3_init_122 (by decide) ?_
      have hB2 : BW E s H locs (VSr V E r (d3 E r (V r 0)) 12 6 (j + 1)) (LSr L r (23 + (j + 1))) (n + 22 + (j + 1)) := ⟨hB.1.to (st3 (by omega)), hB.2.1, by rw [hB.2.2]; omega⟩
      have hk := ih (j + 1) H locs ls (by omega) hB2 hl
      rw [show 22 + (j + 1) = 22 + j + 1 by omega, show 243 + 4 * (j + 1) = 243 + 4 * j + 4 by omega] at hk
      exact hk
  have hL2 : ∀ (fu j : Nat) (H : Heap) (locs : List Loc) (ls : Array Slot), j + fu = 6 → BW E s H locs (VSr V E r (d2 E r (V r 0)) 12 j 0) (LSr L r (16 + j)) (n + 15 + j) → lv_has ls 2 [(1, .int (nI j)), (0, .ref (ea E r 0))] → W p l e (rmC 2 60 30 275) s m ([.ref (ea E r 0)] : List Value).toArray below meth c H locs (15 + j) (217 + 3 * j) (MQ below (Qb E (VSr V E r (d3 E r (V r 0)) 12 6 8) (LSr L r 31) (n + 30)) ([.ref (ea E r 0)] : List Value).toArray s 30 275 (AA E)) (F0 m 64 ls []) := by
    intro fu
    induction fu with
    | zero =>
      intro j H locs ls hj hB hl
      obtain rfl : j = 6 := by omega
      refine lv_iload_n F.1 F.2.1 dX3_init_64 rfl (lv_at hl 0 rfl) ?_
      refine lv_bipush (v := 6) F.1 F.2.1 dX3_init_65 (by decide) ?_
      refine lv_icmp_ge (tgt := 89) F.1 F.2.1 dX3_init_67 (by decide) (fun h5 => ?_) (fun h5 => absurd (c_le (lI 6) rfl (by decide) (by decide)) h5)
      refine lv_aload_n F.1 F.2.1 dX3_init_89 rfl (lv_at hl 1 rfl) ?_
      refine lv_bipush (v := 8) F.1 F.2.1 dX3_init_90 (by decide) ?_
      refine bnewq (r := r) (q := 22) (t := 5) (N := 8) F hT hB rfl cl_X3_37 (hT.1.2.2.2.1 _ (by decide +kernel)) rfl (by decide) (by decide) (by rw [hA _ (by decide) (by decide)]) (oNst hr).1 (oNst hr).2 (by show 21 + 1 ≤ 30; decide) (by show 235 + 8 ≤ 275; decide) dX3_init_92 (fun H hB => ?_)
      refine bputF (ty := tyX3 6) F hT hB (rfl : kcl[3]? = some (RX3, TX3, 11)) tyX3_ok nmX3 fw_X3_39 rfl hnm rfl rfl rfl rfl (Or.inl (Or.inl hL0)) (by omega) (oSrv hr).2 (by decide) dX3_init_95 (fun H locs hB => ?_)
      refine lv_iconst (v := 0) F.1 F.2.1 dX3_init_98 (by decide) ?_
      refine lv_istore_n (lv' := [(1, .int 0), (0, .ref (ea E r 0))]) F.1 F.2.1 dX3_init_99 rfl hl (by decide) rfl (fun ls hl => ?_)
      have hB3 : BW E s H locs (VSr V E r (d3 E r (V r 0)) 12 6 0) (LSr L r (23 + 0)) (n + 22 + 0) := ⟨hB.1.to (en2 (by omega)), hB.2.1, by rw [hB.2.2]⟩
      exact hL3 8 0 H locs ls (by omega) hB3 hl
    | succ fu ih =>
      intro j H locs ls hj hB hl
      refine lv_iload_n F.1 F.2.1 dX3_init_64 rfl (lv_at hl 0 rfl) ?_
      refine lv_bipush (v := 6) F.1 F.2.1 dX3_init_65 (by decide) ?_
      refine lv_icmp_ge (tgt := 89) F.1 F.2.1 dX3_init_67 (by decide) (fun h5 => absurd h5 (c_nle (lI 6) rfl (by omega) (by omega))) (fun h5 => ?_)
      refine lv_aload_n F.1 F.2.1 dX3_init_70 rfl (lv_at hl 1 rfl) ?_
      refine bgetR (r' := r) (q' := 15) F hT hB fw_X3_32 (Or.inl hL0) (oSrv hr).2 (by decide) (by simp [VSr, SVf, d1, d2, d3, updV]) dX3_init_71 ?_
      refine lv_iload_n F.1 F.2.1 dX3_init_74 rfl (lv_at hl 0 rfl) ?_
      refine bnew (r := r) (q := 16 + j) F hT hB (rfl : kcl[5]? = some (RX5, TX5, 3)) tyX5_ok ls_5 cl_X3_30 ci_X5 cz_X5 (by rw [hA _ (by omega) (by omega)]; omega) (oTim hr (by omega)).1 (oTim hr (by omega)).2 (by decide) (by show 15 + j + 1 ≤ 30; omega) (by show 217 + 3 * j + 3 ≤ 275; omega) dX3_init_75 (fun H hB => ?_)
      refine lv_dup F.1 F.2.1 dX3_init_78 rfl ?_
      refine bcv (brunIN F hT hB yc_X5_init rfl yi_X5_init (by decide +kernel) (c_X5_init l E _ _ _ r (16 + j)) hl.1 ⟨Nat.le_of_ble_eq_true rfl, Nat.le_of_ble_eq_true rfl⟩ (Nat.le_of_ble_eq_true rfl) ⟨by show 15 + j + 1 + 0 ≤ 30; omega, by show 217 + 3 * j + 3 + 0 ≤ 275; omega⟩ dX3_init_79) hB (fun H locs hB => ?_)
      refine bastq (t := 4) (N := 6) F hT hB rfl (rfl : kcl[5]? = some (RX5, TX5, 3)) (Or.inl (Or.inr ⟨rfl, by omega, by omega⟩)) (by omega) (oTms hr).2 (Or.inr ⟨rfl, rfl⟩) (oTim hr (by omega)).2 (by decide) (by omega : j < 6) (by decide) rfl dX3_init_82 (fun H locs hB => ?_)
      refine lv_iinc (v := nI (j + 1)) (lv' := [(1, .int (nI (j + 1))), (0, .ref (ea E r 0))]) F.1 F.2.1 dX3_init_83 hl (k := 0) rfl (ia rfl rfl) (by decide) rfl (fun ls hl => ?_)
      refine lv_goto (tgt := 64) F.1 F.2.1 dX3_init_86 (by decide) ?_
      have hB2 : BW E s H locs (VSr V E r (d2 E r (V r 0)) 12 (j + 1) 0) (LSr L r (16 + (j + 1))) (n + 15 + (j + 1)) := ⟨hB.1.to (st2 (by omega)), hB.2.1, by rw [hB.2.2]; omega⟩
      have hk := ih (j + 1) H locs ls (by omega) hB2 hl
      rw [show 15 + (j + 1) = 15 + j + 1 by omega, show 217 + 3 * (j + 1) = 217 + 3 * j + 3 by omega] at hk
      exact hk
  have hL1 : ∀ (fu j : Nat) (H : Heap) (locs : List Loc) (ls : Array Slot), j + fu = 12 → BW E s H locs (VSr V E r (d1 E r (V r 0)) j 0 0) (LSr L r (3 + j)) (n + 2 + j) → lv_has ls 2 [(1, .int (nI j)), (0, .ref (ea E r 0))] → W p l e (rmC 2 60 30 275) s m ([.ref (ea E r 0)] : List Value).toArray below meth c H locs (2 + j) (19 + 16 * j) (MQ below (Qb E (VSr V E r (d3 E r (V r 0)) 12 6 8) (LSr L r 31) (n + 30)) ([.ref (ea E r 0)] : List Value).toArray s 30 275 (AA E)) (F0 m 28 ls []) := by
    intro fu
    induction fu with
    | zero =>
      intro j H locs ls hj hB hl
      obtain rfl : j = 12 := by omega
      refine lv_iload_n F.1 F.2.1 dX3_init_28 rfl (lv_at hl 0 rfl) ?_
      refine lv_bipush (v := 12) F.1 F.2.1 dX3_init_29 (by decide) ?_
      refine lv_icmp_ge (tgt := 53) F.1 F.2.1 dX3_init_31 (by decide) (fun h5 => ?_) (fun h5 => absurd (c_le (lI 12) rfl (by decide) (by decide)) h5)
      refine lv_aload_n F.1 F.2.1 dX3_init_53 rfl (lv_at hl 1 rfl) ?_
      refine lv_bipush (v := 6) F.1 F.2.1 dX3_init_54 (by decide) ?_
      refine bnewq (r := r) (q := 15) (t := 4) (N := 6) F hT hB rfl cl_X3_30 (hT.1.2.2.2.1 _ (by decide +kernel)) rfl (by decide) (by decide) (by rw [hA _ (by decide) (by decide)]) (oTms hr).1 (oTms hr).2 (by show 14 + 1 ≤ 30; decide) (by show 211 + 6 ≤ 275; decide) dX3_init_56 (fun H hB => ?_)
      refine bputF (ty := tyX3 4) F hT hB (rfl : kcl[3]? = some (RX3, TX3, 11)) tyX3_ok nmX3 fw_X3_32 rfl hnm rfl rfl rfl rfl (Or.inl (Or.inl hL0)) (by omega) (oSrv hr).2 (by decide) dX3_init_59 (fun H locs hB => ?_)
      refine lv_iconst (v := 0) F.1 F.2.1 dX3_init_62 (by decide) ?_
      refine lv_istore_n (lv' := [(1, .int 0), (0, .ref (ea E r 0))]) F.1 F.2.1 dX3_init_63 rfl hl (by decide) rfl (fun ls hl => ?_)
      have hB3 : BW E s H locs (VSr V E r (d2 E r (V r 0)) 12 0 0) (LSr L r (16 + 0)) (n + 15 + 0) := ⟨hB.1.to (en2 (by omega)), hB.2.1, by rw [hB.2.2]⟩
      exact hL2 6 0 H locs ls (by omega) hB3 hl
    | succ fu ih =>
      intro j H locs ls hj hB hl
      refine lv_iload_n F.1 F.2.1 dX3_init_28 rfl (lv_at hl 0 rfl) ?_
      refine lv_bipush (v := 12) F.1 F.2.1 dX3_init_29 (by decide) ?_
      refine lv_icmp_ge (tgt := 53) F.1 F.2.1 dX3_init_31 (by decide) (fun h5 => absurd h5 (c_nle (lI 12) rfl (by omega) (by omega))) (fun h5 => ?_)
      refine lv_aload_n F.1 F.2.1 dX3_init_34 rfl (lv_at hl 1 rfl) ?_
      refine bgetR (r' := r) (q' := 2) F hT hB fw_X3_25 (Or.inl hL0) (oSrv hr).2 (by decide) (by simp [VSr, SVf, d1, d2, d3, updV]) dX3_init_35 ?_
      refine lv_iload_n F.1 F.2.1 dX3_init_38 rfl (lv_at hl 0 rfl) ?_
      refine bnew (r := r) (q := 3 + j) F hT hB (rfl : kcl[1]? = some (RX1, TX1, 16)) tyX1_ok ls_1 cl_X3_23 ci_X1 cz_X1 (by rw [hA _ (by omega) (by omega)]; omega) (oLin hr (by omega)).1 (oLin hr (by omega)).2 (by decide) (by show 2 + j + 1 ≤ 30; omega) (by show 19 + 16 * j + 16 ≤ 275; omega) dX3_init_39 (fun H hB => ?_)
      refine lv_dup F.1 F.2.1 dX3_init_42 rfl ?_
      refine bcv (brunIN F hT hB yc_X1_init rfl yi_X1_init (by decide +kernel) (c_X1_init l E _ _ _ r (3 + j)) hl.1 ⟨Nat.le_of_ble_eq_true rfl, Nat.le_of_ble_eq_true rfl⟩ (Nat.le_of_ble_eq_true rfl) ⟨by show 2 + j + 1 + 0 ≤ 30; omega, by show 19 + 16 * j + 16 + 0 ≤ 275; omega⟩ dX3_init_43) hB (fun H locs hB => ?_)
      refine bastq (t := 3) (N := 12) F hT hB rfl (rfl : kcl[1]? = some (RX1, TX1, 16)) (Or.inl (Or.inr ⟨rfl, by omega, by omega⟩)) (by omega) (oLns hr).2 (Or.inr ⟨rfl, rfl⟩) (oLin hr (by omega)).2 (by decide) (by omega : j < 12) (by decide) rfl dX3_init_46 (fun H locs hB => ?_)
      refine lv_iinc (v := nI (j + 1)) (lv' := [(1, .int (nI (j + 1))), (0, .ref (ea E r 0))]) F.1 F.2.1 dX3_init_47 hl (k := 0) rfl (ia rfl rfl) (by decide) rfl (fun ls hl => ?_)
      refine lv_goto (tgt := 28) F.1 F.2.1 dX3_init_50 (by decide) ?_
      have hB2 : BW E s H locs (VSr V E r (d1 E r (V r 0)) (j + 1) 0 0) (LSr L r (3 + (j + 1))) (n + 2 + (j + 1)) := ⟨hB.1.to (st1 (by omega)), hB.2.1, by rw [hB.2.2]; omega⟩
      have hk := ih (j + 1) H locs ls (by omega) hB2 hl
      rw [show 2 + (j + 1) = 2 + j + 1 by omega, show 19 + 16 * (j + 1) = 19 + 16 * j + 16 by omega] at hk
      exact hk
  refine lv_aload_n F.1 F.2.1 dX3_init_17 rfl (lv_at hl 0 rfl) ?_
  refine lv_bipush (v := 12) F.1 F.2.1 dX3_init_18 (by decide) ?_
  refine bnewq (r := r) (q := 2) (t := 3) (N := 12) F hT hB rfl cl_X3_23 (hT.1.2.2.2.1 _ (by decide +kernel)) rfl (by decide) (by decide) (by rw [hA _ (by decide) (by decide)]) (oLns hr).1 (oLns hr).2 (by show 1 + 1 ≤ 30; decide) (by show 7 + 12 ≤ 275; decide) dX3_init_20 (fun H hB => ?_)
  refine bputF (ty := tyX3 2) F hT hB (rfl : kcl[3]? = some (RX3, TX3, 11)) tyX3_ok nmX3 fw_X3_25 rfl hnm rfl rfl rfl rfl (Or.inl (Or.inl hL0)) (by omega) (oSrv hr).2 (by decide) dX3_init_23 (fun H locs hB => ?_)
  refine lv_iconst (v := 0) F.1 F.2.1 dX3_init_26 (by decide) ?_
  refine lv_istore_n (lv' := [(1, .int 0), (0, .ref (ea E r 0))]) F.1 F.2.1 dX3_init_27 rfl hl (by decide) rfl (fun ls hl => ?_)
  have hB3 : BW E s H locs (VSr V E r (d1 E r (V r 0)) 0 0 0) (LSr L r (3 + 0)) (n + 2 + 0) := ⟨hB.1.to (en1 hLr), hB.2.1, by rw [hB.2.2]⟩
  exact hL1 12 0 H locs ls (by omega) hB3 hl
end
section
/-! class Pad's constructor, class History's -/
theorem c_X2_init (l : Launch) (E : mE) (V : Vs) (L : Nat → Nat → Prop) (n : Nat) (hL0 : L 11 5) (hA : ea E 11 6 = n) :
    CtB l E yX2_init cX2_init 1 1 12 1 80 [.ref (ea E 11 5)] V L n (vs (vs V 11 6 (fun _ => .int 0)) 11 5 (updV (V 11 5) 0 (.ref (ea E 11 6)))) (fun r' q' => L r' q' ∨ (r' = 11 ∧ q' = 6)) (n + 1) := by
  refine bMet (by decide +kernel) (Nat.le_of_ble_eq_true rfl) ?_
  intro p e s m below meth c ls F hT hr0 hlk hnm hB hl
  have F : CallFix p m c cX2_init 1 s _ TB RX2 := F
  have hl : lv_has ls 1 [(0, .ref (ea E 11 5))] := hl
  refine lv_aload_n F.1 F.2.1 dX2_init_0 rfl (lv_at hl 0 rfl) ?_
  refine bobj F hl.1 co_X2 (Nat.le_of_ble_eq_true rfl) (Nat.le_of_ble_eq_true rfl) dX2_init_1 ?_
  refine lv_aload_n F.1 F.2.1 dX2_init_4 rfl (lv_at hl 0 rfl) ?_
  refine lv_bipush (v := 80) F.1 F.2.1 dX2_init_5 (by decide) ?_
  refine bnewi (r := 11) (q := 6) (t := 2) (N := 80) F hT hB rfl (fun C h => by cases h) ca_char rfl (by decide) (by decide) hA oH6.1 oH6.2 (by show 0 + 1 ≤ 1; decide) (by show 0 + 80 ≤ 80; decide) dX2_init_7 (fun H hB => ?_)
  refine bputF (ty := tyX2 0) F hT hB (rfl : kcl[2]? = some (RX2, TX2, 2)) tyX2_ok nmX2 fw_X2_9 rfl hnm rfl rfl rfl rfl (Or.inl hL0) (by omega) oH5.2 (by decide) dX2_init_9 (fun H locs hB => ?_)
  exact brv F hr0 hlk hB dX2_init_12 (fun _ _ h => ⟨h, rfl⟩) rfl rfl rfl
/-- a server's object as it is born -/
def dS : Nat → Value := fun k => defaultValue (tyX3 k)
def HSt (V : Vs) (E : mE) (d : Nat → Value) (j : Nat) : Vs := fun r' q' => if 4 ≤ r' ∧ r' < 4 + j then SVf E r' (d3 E r' dS) 12 6 8 q' else if r' = 11 ∧ q' = 3 then d else if r' = 11 ∧ q' = 4 then (fun k => if k < j then .ref (ea E (4 + k) 0) else .null) else V r' q'
def LHt (L : Nat → Nat → Prop) (j : Nat) : Nat → Nat → Prop := fun r' q' => L r' q' ∨ (r' = 11 ∧ q' = 4) ∨ (4 ≤ r' ∧ r' < 4 + j ∧ q' < 31)
theorem enH {V : Vs} {E : mE} {L : Nat → Nat → Prop} : ∀ r' q', LHt L 0 r' q' → (L r' q' ∨ (r' = 11 ∧ q' = 4)) ∧ HSt V E (updV (V 11 3) 0 (.ref (ea E 11 4))) 0 r' q' = vs (vs V 11 4 (fun _ => .null)) 11 3 (updV ((vs V 11 4 (fun _ => .null)) 11 3) 0 (.ref (ea E 11 4))) r' q' := by
  intro r' q' h
  refine ⟨?_, ?_⟩
  · rcases h with h | h | ⟨h1, h2, h3⟩
    · exact Or.inl h
    · exact Or.inr h
    · omega
  · unfold HSt
    rw [if_neg (by omega)]
    by_cases h3 : r' = 11 ∧ q' = 3
    · obtain ⟨rfl, rfl⟩ := h3
      simp [vs]
    · rw [if_neg h3, vs_ne _ _ h3]
      by_cases h4 : r' = 11 ∧ q' = 4
      · obtain ⟨rfl, rfl⟩ := h4
        simp [vs]
      · rw [if_neg h4, vs_ne _ _ h4]
theorem HSt_114 {V : Vs} {E : mE} {d : Nat → Value} {j : Nat} (hj : j ≤ 7) : HSt V E d j 11 4 = fun k => if k < j then .ref (ea E (4 + k) 0) else .null := by
  unfold HSt
  rw [if_neg (by omega), if_neg (by omega), if_pos ⟨rfl, rfl⟩]
theorem HSt_113 {V : Vs} {E : mE} {d : Nat → Value} {j : Nat} (hj : j ≤ 7) : HSt V E d j 11 3 = d := by
  unfold HSt
  rw [if_neg (by omega), if_pos ⟨rfl, rfl⟩]
theorem stH {V : Vs} {E : mE} {d : Nat → Value} {L : Nat → Nat → Prop} {j : Nat} (hj : j < 7) : ∀ r' q', LHt L (j + 1) r' q' → LSr (fun r' q' => LHt L j r' q' ∨ (r' = 4 + j ∧ q' = 0)) (4 + j) 31 r' q' ∧ HSt V E d (j + 1) r' q' = vs (VSr (vs (HSt V E d j) (4 + j) 0 dS) E (4 + j) (d3 E (4 + j) dS) 12 6 8) 11 4 (updV (VSr (vs (HSt V E d j) (4 + j) 0 dS) E (4 + j) (d3 E (4 + j) dS) 12 6 8 11 4) j (.ref (ea E (4 + j) 0))) r' q' := by
  intro r' q' h
  refine ⟨?_, ?_⟩
  · rcases h with h | h | ⟨h1, h2, h3⟩
    · exact Or.inl (Or.inl (Or.inl h))
    · exact Or.inl (Or.inl (Or.inr (Or.inl h)))
    · by_cases hr : r' = 4 + j
      · by_cases hq : q' = 0
        · exact Or.inl (Or.inr ⟨hr, hq⟩)
        · exact Or.inr ⟨hr, by omega, h3⟩
      · exact Or.inl (Or.inl (Or.inr (Or.inr ⟨h1, by omega, h3⟩)))
  · by_cases h4 : r' = 11 ∧ q' = 4
    · obtain ⟨rfl, rfl⟩ := h4
      rw [vs_at]
      have e11 : ¬ 11 = 4 + j := by omega
      rw [HSt_114 (by omega)]
      funext k
      by_cases hk : k = j
      · subst hk
        rw [updV_at, if_pos (by omega)]
      · simp only [updV, if_neg hk, VSr, if_neg e11]
        rw [vs_ne _ _ (by omega), HSt_114 (by omega)]
        by_cases hkj : k < j
        · rw [if_pos (by omega)]
          exact (if_pos hkj).symm
        · rw [if_neg (by omega)]
          exact (if_neg hkj).symm
    · rw [vs_ne _ _ h4]
      unfold VSr
      by_cases hr : r' = 4 + j
      · subst hr
        rw [if_pos rfl]
        unfold HSt
        rw [if_pos (by omega)]
      · rw [if_neg hr, vs_ne _ _ (by omega)]
        unfold HSt
        by_cases hin : 4 ≤ r' ∧ r' < 4 + j
        · rw [if_pos hin, if_pos (by omega)]
        · rw [if_neg hin, if_neg (by omega), if_neg h4]
          rw [if_neg h4]
set_option maxHeartbeats 4000000 in
set_option maxRecDepth 100000 in
theorem c_X0_init (l : Launch) (E : mE) (V : Vs) (L : Nat → Nat → Prop) (n : Nat) (hL0 : L 11 3) (hLr : ∀ r q, 4 ≤ r → r < 11 → ¬ L r q) (hF : L 12 0) (hFv : V 12 0 = fun j => .int (vFst j)) (hA4 : ea E 11 4 = n) (hA : ∀ j q, j < 7 → q < 31 → ea E (4 + j) q = n + 1 + 31 * j + q) :
    CtB l E yX0_init cX0_init 2 3 90 218 2009 [.ref (ea E 11 3)] V L n (HSt V E (updV (V 11 3) 0 (.ref (ea E 11 4))) 7) (LHt L 7) (n + 218) := by
  refine bMet (by decide +kernel) (Nat.le_of_ble_eq_true rfl) ?_
  intro p e s m below meth c ls F hT hr0 hlk hnm hB hl
  have F : CallFix p m c cX0_init 2 s _ TB RX0 := F
  have hl : lv_has ls 2 [(0, .ref (ea E 11 3))] := hl
  refine lv_aload_n F.1 F.2.1 dX0_init_0 rfl (lv_at hl 0 rfl) ?_
  refine bobj F hl.1 co_X0 (Nat.le_of_ble_eq_true rfl) (Nat.le_of_ble_eq_true rfl) dX0_init_1 ?_
  have hL1 : ∀ (fu j : Nat) (H : Heap) (locs : List Loc) (ls : Array Slot), j + fu = 7 → BW E s H locs (HSt V E (updV (V 11 3) 0 (.ref (ea E 11 4))) j) (LHt L j) (n + 1 + 31 * j) → lv_has ls 2 [(1, .int (nI j)), (0, .ref (ea E 11 3))] → W p l e (rmC 3 90 218 2009) s m ([.ref (ea E 11 3)] : List Value).toArray below meth c H locs (1 + 31 * j) (7 + 286 * j) (MQ below (Qb E (HSt V E (updV (V 11 3) 0 (.ref (ea E 11 4))) 7) (LHt L 7) (n + 218)) ([.ref (ea E 11 3)] : List Value).toArray s 218 2009 (AA E)) (F0 m 15 ls []) := by
    intro fu
    induction fu with
    | zero =>
      intro j H locs ls hj hB hl
      obtain rfl : j = 7 := by omega
      refine lv_iload_n F.1 F.2.1 dX0_init_15 rfl (lv_at hl 0 rfl) ?_
      refine lv_aload_n F.1 F.2.1 dX0_init_16 rfl (lv_at hl 1 rfl) ?_
      refine bgetR (r' := 11) (q' := 4) F hT hB fw_X0_11 (Or.inl hL0) oH3.2 (by decide) (by rw [HSt_113 (by omega)]; exact updV_at _ _ _) dX0_init_17 ?_
      refine balen (t := 6) (N := 7) (x := 7) F hT hB (Or.inr (Or.inl ⟨rfl, rfl⟩)) oH4.2 rfl (by decide) dX0_init_20 ?_
      refine lv_icmp_ge (tgt := 43) F.1 F.2.1 dX0_init_21 (by decide) (fun h5 => ?_) (fun h5 => absurd (c_le (lI 7) rfl (by decide) (by decide)) h5)
      exact brv F hr0 hlk hB dX0_init_43 (fun _ _ h => ⟨h, rfl⟩) (by omega) rfl rfl
    | succ fu ih =>
      intro j H locs ls hj hB hl
      refine lv_iload_n F.1 F.2.1 dX0_init_15 rfl (lv_at hl 0 rfl) ?_
      refine lv_aload_n F.1 F.2.1 dX0_init_16 rfl (lv_at hl 1 rfl) ?_
      refine bgetR (r' := 11) (q' := 4) F hT hB fw_X0_11 (Or.inl hL0) oH3.2 (by decide) (by rw [HSt_113 (by omega)]; exact updV_at _ _ _) dX0_init_17 ?_
      refine balen (t := 6) (N := 7) (x := 7) F hT hB (Or.inr (Or.inl ⟨rfl, rfl⟩)) oH4.2 rfl (by decide) dX0_init_20 ?_
      refine lv_icmp_ge (tgt := 43) F.1 F.2.1 dX0_init_21 (by decide) (fun h5 => absurd h5 (c_nle (lI 7) rfl (by omega) (by omega))) (fun h5 => ?_)
      refine lv_aload_n F.1 F.2.1 dX0_init_24 rfl (lv_at hl 1 rfl) ?_
      refine bgetR (r' := 11) (q' := 4) F hT hB fw_X0_11 (Or.inl hL0) oH3.2 (by decide) (by rw [HSt_113 (by omega)]; exact updV_at _ _ _) dX0_init_25 ?_
      refine lv_iload_n F.1 F.2.1 dX0_init_28 rfl (lv_at hl 0 rfl) ?_
      refine bnew (r := 4 + j) (q := 0) F hT hB (rfl : kcl[3]? = some (RX3, TX3, 11)) tyX3_ok ls_3 cl_X0_9 ci_X3 cz_X3 (by rw [hA j 0 (by omega) (by decide)]; rfl) (oSrv (by omega)).1 (oSrv (by omega)).2 (by decide) (by show 1 + 31 * j + 1 ≤ 218; omega) (by show 7 + 286 * j + 11 ≤ 2009; omega) dX0_init_29 (fun H hB => ?_)
      refine lv_dup F.1 F.2.1 dX0_init_32 rfl ?_
      refine bcv (brunI F hT hB yc_X3_init rfl yi_X3_init ml_X0_17 (c_X3_init l E _ _ _ (4 + j) (by omega) (Or.inr ⟨rfl, rfl⟩) (fun q hq => ?_) (Or.inl (Or.inl hF)) ?_ (fun q h1 h2 => ?_)) hl.1 ⟨Nat.le_of_ble_eq_true rfl, Nat.le_of_ble_eq_true rfl⟩ (Nat.le_of_ble_eq_true rfl) ⟨by show 1 + 31 * j + 1 + 30 ≤ 218; omega, by show 7 + 286 * j + 11 + 275 ≤ 2009; omega⟩ dX0_init_33) hB (fun H locs hB => ?_)
      · rcases hq with (hq | ⟨h1, h2⟩ | ⟨h1, h2, h3⟩) | ⟨h1, h2⟩
        · exact absurd hq (hLr _ _ (by omega) (by omega))
        · omega
        · omega
        · exact h2
      · rw [vs_ne _ _ (by omega)]
        unfold HSt
        rw [if_neg (by omega), if_neg (by omega), if_neg (by omega)]
        exact hFv
      · rw [hA j q (by omega) h2]
        omega
      rw [vs_at] at hB
      refine bastq (t := 6) (N := 7) F hT hB rfl (rfl : kcl[3]? = some (RX3, TX3, 11)) (Or.inl (Or.inl (Or.inr (Or.inl ⟨rfl, rfl⟩)))) (by decide) oH4.2 (Or.inl (Or.inr ⟨rfl, rfl⟩)) (oSrv (by omega)).2 (by decide) (by omega : j < 7) (by decide) rfl dX0_init_36 (fun H locs hB => ?_)
      refine lv_iinc (v := nI (j + 1)) (lv' := [(1, .int (nI (j + 1))), (0, .ref (ea E 11 3))]) F.1 F.2.1 dX0_init_37 hl (k := 0) rfl (ia rfl rfl) (by decide) rfl (fun ls hl => ?_)
      refine lv_goto (tgt := 15) F.1 F.2.1 dX0_init_40 (by decide) ?_
      have hB2 : BW E s H locs (HSt V E (updV (V 11 3) 0 (.ref (ea E 11 4))) (j + 1)) (LHt L (j + 1)) (n + 1 + 31 * (j + 1)) := ⟨hB.1.to (stH (by omega)), hB.2.1, by rw [hB.2.2]; omega⟩
      have hk := ih (j + 1) H locs ls (by omega) hB2 hl
      rw [show 1 + 31 * (j + 1) = 1 + 31 * j + 1 + 30 by omega, show 7 + 286 * (j + 1) = 7 + 286 * j + 11 + 275 by omega] at hk
      exact hk
  refine lv_aload_n F.1 F.2.1 dX0_init_4 rfl (lv_at hl 0 rfl) ?_
  refine lv_bipush (v := 7) F.1 F.2.1 dX0_init_5 (by decide) ?_
  refine bnewq (r := 11) (q := 4) (t := 6) (N := 7) F hT hB rfl cl_X0_9 (hT.1.2.2.2.1 _ (by decide +kernel)) rfl (by decide) (by decide) hA4 oH4.1 oH4.2 (by show 0 + 1 ≤ 218; decide) (by show 0 + 7 ≤ 2009; decide) dX0_init_7 (fun H hB => ?_)
  refine bputF (ty := tyX0 0) F hT hB (rfl : kcl[0]? = some (RX0, TX0, 3)) tyX0_ok nmX0 fw_X0_11 rfl hnm rfl rfl rfl rfl (Or.inl hL0) (by omega) oH3.2 (by decide) dX0_init_10 (fun H locs hB => ?_)
  refine lv_iconst (v := 0) F.1 F.2.1 dX0_init_13 (by decide) ?_
  refine lv_istore_n (lv' := [(1, .int 0), (0, .ref (ea E 11 3))]) F.1 F.2.1 dX0_init_14 rfl hl (by decide) rfl (fun ls hl => ?_)
  have hB3 : BW E s H locs (HSt V E (updV (V 11 3) 0 (.ref (ea E 11 4))) 0) (LHt L 0) (n + 1 + 31 * 0) := ⟨hB.1.to enH, hB.2.1, by rw [hB.2.2]⟩
  exact hL1 7 0 H locs ls (by omega) hB3 hl
end
section
/-! class InterruptInn's constructor -/
def XV (V : Vs) (E : mE) (d : Nat → Value) (k m : Nat) : Vs := fun r' q' => if r' < k then SVf E r' (d3 E r' dS) 12 6 8 q' else if r' = 11 ∧ q' = 0 then d else if r' = 11 ∧ q' = 1 then (fun i => if i < m then .ref (ea E (2 + i) 0) else .null) else V r' q'
def XL (L : Nat → Nat → Prop) (k b : Nat) : Nat → Nat → Prop := fun r' q' => L r' q' ∨ (r' < k ∧ q' < 31) ∨ (r' = 11 ∧ 1 ≤ q' ∧ q' < b)
theorem XV_0 {V : Vs} {E : mE} {d : Nat → Value} {k m : Nat} (hk : k ≤ 4) : XV V E d k m 11 0 = d := by
  unfold XV
  rw [if_neg (by omega), if_pos ⟨rfl, rfl⟩]
theorem XV_1 {V : Vs} {E : mE} {d : Nat → Value} {k m : Nat} (hk : k ≤ 4) : XV V E d k m 11 1 = fun i => if i < m then .ref (ea E (2 + i) 0) else .null := by
  unfold XV
  rw [if_neg (by omega), if_neg (by omega), if_pos ⟨rfl, rfl⟩]
theorem enX {V : Vs} {E : mE} {L : Nat → Nat → Prop} (hL : ∀ r' q', L r' q' → r' = 12 ∨ (r' = 11 ∧ q' = 0)) : ∀ r' q', XL L 0 1 r' q' → L r' q' ∧ XV V E (V 11 0) 0 0 r' q' = V r' q' := by
  intro r' q' h
  have h1 : L r' q' := by
    rcases h with h | h | h
    · exact h
    · omega
    · omega
  refine ⟨h1, ?_⟩
  unfold XV
  rw [if_neg (by omega)]
  rcases hL _ _ h1 with rfl | ⟨rfl, rfl⟩
  · rw [if_neg (by omega), if_neg (by omega)]
  · rw [if_pos ⟨rfl, rfl⟩]
theorem svX {V : Vs} {E : mE} {d : Nat → Value} {L : Nat → Nat → Prop} {k m b : Nat} : ∀ r' q', XL L (k + 1) b r' q' → LSr (fun r' q' => XL L k b r' q' ∨ (r' = k ∧ q' = 0)) k 31 r' q' ∧ XV V E d (k + 1) m r' q' = VSr (vs (XV V E d k m) k 0 dS) E k (d3 E k dS) 12 6 8 r' q' := by
  intro r' q' h
  refine ⟨?_, ?_⟩
  · rcases h with h | ⟨h1, h2⟩ | h
    · exact Or.inl (Or.inl (Or.inl h))
    · by_cases hr : r' = k
      · by_cases hq : q' = 0
        · exact Or.inl (Or.inr ⟨hr, hq⟩)
        · exact Or.inr ⟨hr, by omega, h2⟩
      · exact Or.inl (Or.inl (Or.inr (Or.inl ⟨by omega, h2⟩)))
    · exact Or.inl (Or.inl (Or.inr (Or.inr h)))
  · unfold VSr
    by_cases hr : r' = k
    · subst hr
      rw [if_pos rfl]
      unfold XV
      rw [if_pos (by omega)]
    · rw [if_neg hr, vs_ne _ _ (by omega)]
      unfold XV
      by_cases h1 : r' < k
      · rw [if_pos h1, if_pos (by omega)]
      · rw [if_neg h1, if_neg (by omega)]
theorem ptX {V : Vs} {E : mE} {d : Nat → Value} {k m f : Nat} {v : Value} (hk : k ≤ 4) : ∀ r' q', XV V E (updV d f v) k m r' q' = vs (XV V E d k m) 11 0 (updV (XV V E d k m 11 0) f v) r' q' := by
  intro r' q'
  by_cases h : r' = 11 ∧ q' = 0
  · obtain ⟨rfl, rfl⟩ := h
    rw [vs_at, XV_0 hk, XV_0 hk]
  · rw [vs_ne _ _ h]
    unfold XV
    rw [if_neg h, if_neg h]
theorem arX {V : Vs} {E : mE} {d : Nat → Value} {L : Nat → Nat → Prop} {k : Nat} (hk : k ≤ 4) : ∀ r' q', XL L k 2 r' q' → (XL L k 1 r' q' ∨ (r' = 11 ∧ q' = 1)) ∧ XV V E d k 0 r' q' = vs (XV V E d k 0) 11 1 (fun _ => .null) r' q' := by
  intro r' q' h
  refine ⟨?_, ?_⟩
  · rcases h with h | h | ⟨h1, h2, h3⟩
    · exact Or.inl (Or.inl h)
    · exact Or.inl (Or.inr (Or.inl h))
    · exact Or.inr ⟨h1, by omega⟩
  · by_cases h : r' = 11 ∧ q' = 1
    · obtain ⟨rfl, rfl⟩ := h
      rw [vs_at, XV_1 hk]
      funext i
      exact if_neg (by omega)
    · rw [vs_ne _ _ h]
theorem asX {V : Vs} {E : mE} {d : Nat → Value} {k m : Nat} (hk : k ≤ 4) : ∀ r' q', XV V E d k (m + 1) r' q' = vs (XV V E d k m) 11 1 (updV (XV V E d k m 11 1) m (.ref (ea E (2 + m) 0))) r' q' := by
  intro r' q'
  by_cases h : r' = 11 ∧ q' = 1
  · obtain ⟨rfl, rfl⟩ := h
    rw [vs_at, XV_1 hk, XV_1 hk]
    funext i
    by_cases hi : i = m
    · subst hi
      rw [updV_at, if_pos (by omega)]
    · simp only [updV, if_neg hi]
      by_cases h2 : i < m
      · rw [if_pos h2, if_pos (by omega)]
      · rw [if_neg h2, if_neg (by omega)]
  · rw [vs_ne _ _ h]
    unfold XV
    rw [if_neg h, if_neg h]
end
section
/-! class InterruptInn's constructor, walked -/
abbrev DX (E : mE) (d : Nat → Value) : Nat → Value := updV (updV (updV d 0 (.ref (ea E 0 0))) 1 (.ref (ea E 1 0))) 2 (.ref (ea E 11 1))
abbrev VcX (E : mE) (V : Vs) : Vs := vs (vs (XV V E (DX E (V 11 0)) 4 2) 11 2 (fun _ => .int 0)) 11 0 (updV (vs (XV V E (DX E (V 11 0)) 4 2) 11 2 (fun _ => .int 0) 11 0) 3 (.ref (ea E 11 2)))
abbrev VdX (E : mE) (V : Vs) : Vs := vs (VcX E V) 11 3 (fun k => defaultValue (tyX0 k))
abbrev VeX (E : mE) (V : Vs) : Vs := HSt (VdX E V) E (updV (VdX E V 11 3) 0 (.ref (ea E 11 4))) 7
abbrev VfX (E : mE) (V : Vs) : Vs := vs (VeX E V) 11 0 (updV (VeX E V 11 0) 4 (.ref (ea E 11 3)))
abbrev VgX (E : mE) (V : Vs) : Vs := vs (VfX E V) 11 5 (fun k => defaultValue (tyX2 k))
abbrev VhX (E : mE) (V : Vs) : Vs := vs (vs (VgX E V) 11 6 (fun _ => .int 0)) 11 5 (updV (VgX E V 11 5) 0 (.ref (ea E 11 6)))
abbrev ViX (E : mE) (V : Vs) : Vs := vs (VhX E V) 11 0 (updV (VhX E V 11 0) 5 (.ref (ea E 11 5)))
abbrev LiX (L : Nat → Nat → Prop) : Nat → Nat → Prop := fun r' q' => (fun r' q' => LHt (fun r' q' => (fun r' q' => XL L 4 2 r' q' ∨ (r' = 11 ∧ q' = 2)) r' q' ∨ (r' = 11 ∧ q' = 3)) 7 r' q' ∨ (r' = 11 ∧ q' = 5)) r' q' ∨ (r' = 11 ∧ q' = 6)
set_option maxHeartbeats 4000000 in
set_option maxRecDepth 100000 in
theorem c_X6_init (l : Launch) (E : mE) (V : Vs) (L : Nat → Nat → Prop) (n : Nat) (hL0 : L 11 0) (hLr : ∀ r' q', L r' q' → r' = 12 ∨ (r' = 11 ∧ q' = 0)) (hF : L 12 0) (hFv : V 12 0 = fun j => .int (vFst j)) (hA0 : ∀ q, q < 31 → ea E 0 q = n + q) (hA1 : ∀ q, q < 31 → ea E 1 q = n + 31 + q) (hA2 : ∀ j q, j < 2 → q < 31 → ea E (2 + j) q = n + 63 + 31 * j + q) (hAs : ea E 11 1 = n + 62) (hAv : ea E 11 2 = n + 125) (hAh : ea E 11 3 = n + 126) (hAt : ea E 11 4 = n + 127) (hAH : ∀ j q, j < 7 → q < 31 → ea E (4 + j) q = n + 127 + 1 + 31 * j + q) (hAp : ea E 11 5 = n + 345) (hAg : ea E 11 6 = n + 346) :
    CtB l E yX6_init cX6_init 2 4 120 347 3242 [.ref (ea E 11 0)] V L n (ViX E V) (LiX L) (n + 347) := by
  refine bMet (by decide +kernel) (Nat.le_of_ble_eq_true rfl) ?_
  intro p e s m below meth c ls F hT hr0 hlk hnm hB hl
  have F : CallFix p m c cX6_init 2 s _ TB RX6 := F
  have hl : lv_has ls 2 [(0, .ref (ea E 11 0))] := hl
  have hB : BW E s s.heap [] (XV V E (V 11 0) 0 0) (XL L 0 1) n := ⟨hB.1.to (enX hLr), hB.2⟩
  have hL1 : ∀ (fu j : Nat) (H : Heap) (locs : List Loc) (ls : Array Slot), j + fu = 2 → BW E s H locs (XV V E (DX E (V 11 0)) (2 + j) j) (XL L (2 + j) 2) (n + 63 + 31 * j) → lv_has ls 2 [(1, .int (nI j)), (0, .ref (ea E 11 0))] → W p l e (rmC 4 120 347 3242) s m ([.ref (ea E 11 0)] : List Value).toArray below meth c H locs (63 + 31 * j) (574 + 286 * j) (MQ below (Qb E (ViX E V) (LiX L) (n + 347)) ([.ref (ea E 11 0)] : List Value).toArray s 347 3242 (AA E)) (F0 m 36 ls []) := by
    intro fu
    induction fu with
    | zero =>
      intro j H locs ls hj hB hl
      obtain rfl : j = 2 := by omega
      refine lv_iload_n F.1 F.2.1 dX6_init_36 rfl (lv_at hl 0 rfl) ?_
      refine lv_iconst (v := 2) F.1 F.2.1 dX6_init_37 (by decide) ?_
      refine lv_icmp_ge (tgt := 60) F.1 F.2.1 dX6_init_38 (by decide) (fun h5 => ?_) (fun h5 => absurd (c_le (lI 2) rfl (by decide) (by decide)) h5)
      refine lv_aload_n F.1 F.2.1 dX6_init_60 rfl (lv_at hl 1 rfl) ?_
      refine lv_iconst (v := 2) F.1 F.2.1 dX6_init_61 (by decide) ?_
      refine bnewi (r := 11) (q := 2) (t := 1) (N := 2) F hT hB rfl (fun C h => by cases h) ca_boolean rfl (by decide) (by decide) (by rw [hAv]) oH2.1 oH2.2 (by show 63 + 31 * 2 + 1 ≤ 347; decide) (by show 574 + 286 * 2 + 2 ≤ 3242; decide) dX6_init_62 (fun H hB => ?_)
      refine bputF (ty := tyX6 3) F hT hB (rfl : kcl[6]? = some (RX6, TX6, 6)) tyX6_ok nmX6 fw_X6_23 rfl hnm rfl rfl rfl rfl (Or.inl (Or.inl hL0)) (by decide) oH0.2 (by decide) dX6_init_64 (fun H locs hB => ?_)
      refine lv_aload_n F.1 F.2.1 dX6_init_67 rfl (lv_at hl 1 rfl) ?_
      refine bnew (r := 11) (q := 3) F hT hB (rfl : kcl[0]? = some (RX0, TX0, 3)) tyX0_ok ls_0 cl_X6_27 ci_X0 cz_X0 (by rw [hAh]) oH3.1 oH3.2 (by decide) (by show 63 + 31 * 2 + 1 + 1 ≤ 347; decide) (by show 574 + 286 * 2 + 2 + 3 ≤ 3242; decide) dX6_init_68 (fun H hB => ?_)
      refine lv_dup F.1 F.2.1 dX6_init_71 rfl ?_
      refine bcv (brunI F hT hB yc_X0_init rfl yi_X0_init ml_X6_29 (c_X0_init l E _ _ _ (Or.inr ⟨rfl, rfl⟩) (fun r q h1 h2 h3 => ?_) (Or.inl (Or.inl (Or.inl hF))) ?_ (by rw [hAt]) (fun j q h1 h2 => hAH j q h1 h2)) hl.1 ⟨Nat.le_of_ble_eq_true rfl, Nat.le_of_ble_eq_true rfl⟩ (Nat.le_of_ble_eq_true rfl) ⟨by show 63 + 31 * 2 + 1 + 1 + 218 ≤ 347; decide, by show 574 + 286 * 2 + 2 + 3 + 2009 ≤ 3242; decide⟩ dX6_init_72) hB (fun H locs hB => ?_)
      · rcases h3 with ((h3 | ⟨h3, h4⟩ | ⟨h3, h4, h5⟩) | ⟨h3, h4⟩) | ⟨h3, h4⟩
        · rcases hLr _ _ h3 with h | ⟨h, _⟩
          · omega
          · omega
        · omega
        · omega
        · omega
        · omega
      · rw [vs_ne _ _ (by omega), vs_ne _ _ (by omega), vs_ne _ _ (by omega)]
        unfold XV
        rw [if_neg (by omega), if_neg (by omega), if_neg (by omega)]
        exact hFv
      refine bputF (ty := tyX6 4) F hT hB (rfl : kcl[6]? = some (RX6, TX6, 6)) tyX6_ok nmX6 fw_X6_30 rfl hnm rfl rfl rfl rfl (Or.inl (Or.inl (Or.inl (Or.inl hL0)))) (by decide) oH0.2 (by decide) dX6_init_75 (fun H locs hB => ?_)
      refine lv_aload_n F.1 F.2.1 dX6_init_78 rfl (lv_at hl 1 rfl) ?_
      refine bnew (r := 11) (q := 5) F hT hB (rfl : kcl[2]? = some (RX2, TX2, 2)) tyX2_ok ls_2 cl_X6_34 ci_X2 cz_X2 (by rw [hAp]) oH5.1 oH5.2 (by decide) (by show 63 + 31 * 2 + 1 + 1 + 218 + 1 ≤ 347; decide) (by show 574 + 286 * 2 + 2 + 3 + 2009 + 2 ≤ 3242; decide) dX6_init_79 (fun H hB => ?_)
      refine lv_dup F.1 F.2.1 dX6_init_82 rfl ?_
      refine bcv (brunI F hT hB yc_X2_init rfl yi_X2_init ml_X6_36 (c_X2_init l E _ _ _ (Or.inr ⟨rfl, rfl⟩) (by rw [hAg])) hl.1 ⟨Nat.le_of_ble_eq_true rfl, Nat.le_of_ble_eq_true rfl⟩ (Nat.le_of_ble_eq_true rfl) ⟨by show 63 + 31 * 2 + 1 + 1 + 218 + 1 + 1 ≤ 347; decide, by show 574 + 286 * 2 + 2 + 3 + 2009 + 2 + 80 ≤ 3242; decide⟩ dX6_init_83) hB (fun H locs hB => ?_)
      refine bputF (ty := tyX6 5) F hT hB (rfl : kcl[6]? = some (RX6, TX6, 6)) tyX6_ok nmX6 fw_X6_37 rfl hnm rfl rfl rfl rfl (Or.inl (Or.inl (Or.inl (Or.inl (Or.inl (Or.inl hL0)))))) (by decide) oH0.2 (by decide) dX6_init_86 (fun H locs hB => ?_)
      exact brv F hr0 hlk hB dX6_init_89 (fun _ _ h => ⟨h, rfl⟩) (by omega) rfl rfl
    | succ fu ih =>
      intro j H locs ls hj hB hl
      refine lv_iload_n F.1 F.2.1 dX6_init_36 rfl (lv_at hl 0 rfl) ?_
      refine lv_iconst (v := 2) F.1 F.2.1 dX6_init_37 (by decide) ?_
      refine lv_icmp_ge (tgt := 60) F.1 F.2.1 dX6_init_38 (by decide) (fun h5 => absurd h5 (c_nle (lI 2) rfl (by omega) (by omega))) (fun h5 => ?_)
      refine lv_aload_n F.1 F.2.1 dX6_init_41 rfl (lv_at hl 1 rfl) ?_
      refine bgetR (r' := 11) (q' := 1) F hT hB fw_X6_19 (Or.inl hL0) oH0.2 (by decide) (by rw [XV_0 (by omega)]; exact updV_at _ _ _) dX6_init_42 ?_
      refine lv_iload_n F.1 F.2.1 dX6_init_45 rfl (lv_at hl 0 rfl) ?_
      refine bnew (r := 2 + j) (q := 0) F hT hB (rfl : kcl[3]? = some (RX3, TX3, 11)) tyX3_ok ls_3 cl_X6_7 ci_X3 cz_X3 ((hA2 j 0 (by omega) (by omega)).trans (by omega)) (oSrv (by omega)).1 (oSrv (by omega)).2 (by decide) (by show 63 + 31 * j + 1 ≤ 347; omega) (by show 574 + 286 * j + 11 ≤ 3242; omega) dX6_init_46 (fun H hB => ?_)
      refine lv_dup F.1 F.2.1 dX6_init_49 rfl ?_
      refine bcv (brunI F hT hB yc_X3_init rfl yi_X3_init ml_X6_9 (c_X3_init l E _ _ _ (2 + j) (by omega) (Or.inr ⟨rfl, rfl⟩) (fun q hq => ?_) (Or.inl (Or.inl hF)) ?_ (fun q h1 h2 => ?_)) hl.1 ⟨Nat.le_of_ble_eq_true rfl, Nat.le_of_ble_eq_true rfl⟩ (Nat.le_of_ble_eq_true rfl) ⟨by show 63 + 31 * j + 1 + 30 ≤ 347; omega, by show 574 + 286 * j + 11 + 275 ≤ 3242; omega⟩ dX6_init_50) hB (fun H locs hB => ?_)
      · rcases hq with (hq | ⟨h1, h2⟩ | ⟨h1, h2, h3⟩) | ⟨h1, h2⟩
        · rcases hLr _ _ hq with h | ⟨h, _⟩
          · omega
          · omega
        · omega
        · omega
        · exact h2
      · rw [vs_ne _ _ (by omega)]
        unfold XV
        rw [if_neg (by omega), if_neg (by omega), if_neg (by omega)]
        exact hFv
      · rw [hA2 j q (by omega) (by omega)]
        omega
      rw [vs_at] at hB
      have hB : BW E s H locs (XV V E (DX E (V 11 0)) (2 + j + 1) j) (XL L (2 + j + 1) 2) (n + 63 + 31 * j + 1 + 30) := ⟨hB.1.to svX, hB.2⟩
      refine bastq (t := 6) (N := 2) F hT hB rfl (rfl : kcl[3]? = some (RX3, TX3, 11)) (Or.inr (Or.inr ⟨rfl, by decide, by decide⟩)) (by decide) oH1.2 (Or.inr (Or.inl ⟨by omega, by decide⟩)) (oSrv (by omega)).2 (by decide) (by omega : j < 2) (by decide) rfl dX6_init_53 (fun H locs hB => ?_)
      refine lv_iinc (v := nI (j + 1)) (lv' := [(1, .int (nI (j + 1))), (0, .ref (ea E 11 0))]) F.1 F.2.1 dX6_init_54 hl (k := 0) rfl (ia rfl rfl) (by decide) rfl (fun ls hl => ?_)
      refine lv_goto (tgt := 36) F.1 F.2.1 dX6_init_57 (by decide) ?_
      have hB2 : BW E s H locs (XV V E (DX E (V 11 0)) (2 + (j + 1)) (j + 1)) (XL L (2 + (j + 1)) 2) (n + 63 + 31 * (j + 1)) := ⟨hB.1.to (fun r' q' h => ⟨h, asX (by omega) r' q'⟩), hB.2.1, by rw [hB.2.2]; omega⟩
      have hk := ih (j + 1) H locs ls (by omega) hB2 hl
      rw [show 63 + 31 * (j + 1) = 63 + 31 * j + 1 + 30 by omega, show 574 + 286 * (j + 1) = 574 + 286 * j + 11 + 275 by omega] at hk
      exact hk
  refine lv_aload_n F.1 F.2.1 dX6_init_0 rfl (lv_at hl 0 rfl) ?_
  refine bobj F hl.1 co_X6 (Nat.le_of_ble_eq_true rfl) (Nat.le_of_ble_eq_true rfl) dX6_init_1 ?_
  refine lv_aload_n F.1 F.2.1 dX6_init_4 rfl (lv_at hl 0 rfl) ?_
  refine bnew (r := 0) (q := 0) F hT hB (rfl : kcl[3]? = some (RX3, TX3, 11)) tyX3_ok ls_3 cl_X6_7 ci_X3 cz_X3 ((hA0 0 (by omega)).trans (by omega)) (oSrv (by omega)).1 (oSrv (by omega)).2 (by decide) (by show 0 + 1 ≤ 347; omega) (by show 0 + 11 ≤ 3242; omega) dX6_init_5 (fun H hB => ?_)
  refine lv_dup F.1 F.2.1 dX6_init_8 rfl ?_
  refine bcv (brunI F hT hB yc_X3_init rfl yi_X3_init ml_X6_9 (c_X3_init l E _ _ _ (0) (by omega) (Or.inr ⟨rfl, rfl⟩) (fun q hq => ?_) (Or.inl (Or.inl hF)) ?_ (fun q h1 h2 => ?_)) hl.1 ⟨Nat.le_of_ble_eq_true rfl, Nat.le_of_ble_eq_true rfl⟩ (Nat.le_of_ble_eq_true rfl) ⟨by show 0 + 1 + 30 ≤ 347; omega, by show 0 + 11 + 275 ≤ 3242; omega⟩ dX6_init_9) hB (fun H locs hB => ?_)
  · rcases hq with (hq | ⟨h1, h2⟩ | ⟨h1, h2, h3⟩) | ⟨h1, h2⟩
    · rcases hLr _ _ hq with h | ⟨h, _⟩
      · omega
      · omega
    · omega
    · omega
    · exact h2
  · rw [vs_ne _ _ (by omega)]
    unfold XV
    rw [if_neg (by omega), if_neg (by omega), if_neg (by omega)]
    exact hFv
  · rw [hA0 q (by omega)]
    omega
  rw [vs_at] at hB
  have hB : BW E s H locs (XV V E (V 11 0) 1 0) (XL L 1 1) (n + 1 + 30) := ⟨hB.1.to svX, hB.2⟩
  refine bputF (ty := tyX6 0) F hT hB (rfl : kcl[6]? = some (RX6, TX6, 6)) tyX6_ok nmX6 fw_X6_10 rfl hnm rfl rfl rfl rfl (Or.inl hL0) (by decide) oH0.2 (by decide) dX6_init_12 (fun H locs hB => ?_)
  have hB : BW E s H locs (XV V E (updV (V 11 0) 0 (.ref (ea E 0 0))) 1 0) (XL L 1 1) (n + 1 + 30) := ⟨hB.1.to (fun r' q' h => ⟨h, ptX (by omega) r' q'⟩), hB.2⟩
  refine lv_aload_n F.1 F.2.1 dX6_init_15 rfl (lv_at hl 0 rfl) ?_
  refine bnew (r := 1) (q := 0) F hT hB (rfl : kcl[3]? = some (RX3, TX3, 11)) tyX3_ok ls_3 cl_X6_7 ci_X3 cz_X3 ((hA1 0 (by omega)).trans (by omega)) (oSrv (by omega)).1 (oSrv (by omega)).2 (by decide) (by show 0 + 1 + 30 + 1 ≤ 347; omega) (by show 0 + 11 + 275 + 11 ≤ 3242; omega) dX6_init_16 (fun H hB => ?_)
  refine lv_dup F.1 F.2.1 dX6_init_19 rfl ?_
  refine bcv (brunI F hT hB yc_X3_init rfl yi_X3_init ml_X6_9 (c_X3_init l E _ _ _ (1) (by omega) (Or.inr ⟨rfl, rfl⟩) (fun q hq => ?_) (Or.inl (Or.inl hF)) ?_ (fun q h1 h2 => ?_)) hl.1 ⟨Nat.le_of_ble_eq_true rfl, Nat.le_of_ble_eq_true rfl⟩ (Nat.le_of_ble_eq_true rfl) ⟨by show 0 + 1 + 30 + 1 + 30 ≤ 347; omega, by show 0 + 11 + 275 + 11 + 275 ≤ 3242; omega⟩ dX6_init_20) hB (fun H locs hB => ?_)
  · rcases hq with (hq | ⟨h1, h2⟩ | ⟨h1, h2, h3⟩) | ⟨h1, h2⟩
    · rcases hLr _ _ hq with h | ⟨h, _⟩
      · omega
      · omega
    · omega
    · omega
    · exact h2
  · rw [vs_ne _ _ (by omega)]
    unfold XV
    rw [if_neg (by omega), if_neg (by omega), if_neg (by omega)]
    exact hFv
  · rw [hA1 q (by omega)]
    omega
  rw [vs_at] at hB
  have hB : BW E s H locs (XV V E (updV (V 11 0) 0 (.ref (ea E 0 0))) 2 0) (XL L 2 1) (n + 1 + 30 + 1 + 30) := ⟨hB.1.to svX, hB.2⟩
  refine bputF (ty := tyX6 1) F hT hB (rfl : kcl[6]? = some (RX6, TX6, 6)) tyX6_ok nmX6 fw_X6_16 rfl hnm rfl rfl rfl rfl (Or.inl hL0) (by decide) oH0.2 (by decide) dX6_init_23 (fun H locs hB => ?_)
  have hB : BW E s H locs (XV V E (updV (updV (V 11 0) 0 (.ref (ea E 0 0))) 1 (.ref (ea E 1 0))) 2 0) (XL L 2 1) (n + 1 + 30 + 1 + 30) := ⟨hB.1.to (fun r' q' h => ⟨h, ptX (by omega) r' q'⟩), hB.2⟩
  refine lv_aload_n F.1 F.2.1 dX6_init_26 rfl (lv_at hl 0 rfl) ?_
  refine lv_iconst (v := 2) F.1 F.2.1 dX6_init_27 (by decide) ?_
  refine bnewq (r := 11) (q := 1) (t := 6) (N := 2) F hT hB rfl cl_X6_7 (hT.1.2.2.2.1 _ (by decide +kernel)) rfl (by decide) (by decide) (by rw [hAs]) oH1.1 oH1.2 (by show 0 + 1 + 30 + 1 + 30 + 1 ≤ 347; decide) (by show 0 + 11 + 275 + 11 + 275 + 2 ≤ 3242; decide) dX6_init_28 (fun H hB => ?_)
  have hB : BW E s H locs (XV V E (updV (updV (V 11 0) 0 (.ref (ea E 0 0))) 1 (.ref (ea E 1 0))) 2 0) (XL L 2 2) (n + 1 + 30 + 1 + 30 + 1) := ⟨hB.1.to (arX (by omega)), hB.2⟩
  refine bputF (ty := tyX6 2) F hT hB (rfl : kcl[6]? = some (RX6, TX6, 6)) tyX6_ok nmX6 fw_X6_19 rfl hnm rfl rfl rfl rfl (Or.inl hL0) (by decide) oH0.2 (by decide) dX6_init_31 (fun H locs hB => ?_)
  refine lv_iconst (v := 0) F.1 F.2.1 dX6_init_34 (by decide) ?_
  refine lv_istore_n (lv' := [(1, .int 0), (0, .ref (ea E 11 0))]) F.1 F.2.1 dX6_init_35 rfl hl (by decide) rfl (fun ls hl => ?_)
  have hB3 : BW E s H locs (XV V E (DX E (V 11 0)) (2 + 0) 0) (XL L (2 + 0) 2) (n + 63 + 31 * 0) := ⟨hB.1.to (fun r' q' h => ⟨h, ptX (by omega) r' q'⟩), hB.2⟩
  exact hL1 2 0 H locs ls (by omega) hB3 hl
end
section
/-! the reference's constructor -/
theorem biast {p : Program} {l : Launch} {e : Env} {R : Room} {s : State} {m : MethodId} {args : Array Value} {below : List Frame} {meth : Method} {c : Code} {H : Heap} {locs : List Loc} {cells slots : Nat} {Q : State → Prop} {cc : ByteArray} {nL pc : Nat} {ls : Array Slot} {rest : List Value} {own : String} {E : mE} {V : Vs} {L : Nat → Nat → Prop} {n r q N j : Nat} {x v : Int32}
    (F : CallFix p m c cc nL s args TB own) (hT : Stat E s) (hB : BW E s H locs V L n) (hL : L r q) (hk : kd r q = (10, N)) (hr : r ≠ 12) (hj : j < N) (hN : N < 2 ^ 31) (hx : x = nI j) (hdg : decode cc pc = .ok (.iastore, 1))
    (kk : ∀ (H1 : Heap) (locs1 : List Loc), BW E s H1 locs1 (vs V r q (updV (V r q) j (.int v))) L n → W p l e R s m args below meth c H1 locs1 cells slots Q (F0 m (pc + 1) ls rest)) : W p l e R s m args below meth c H locs cells slots Q (F0 m pc ls (.int v :: .int x :: .ref (ea E r q) :: rest)) := by
  obtain ⟨b1, b2, b3⟩ := hB
  obtain ⟨hlv, hcv⟩ := b1 r q hL
  unfold cellV at hcv
  rw [hk, if_neg (by show ¬ 10 < 10; omega), show ((10, N) : Nat × Nat).1 - 10 = 0 from rfl] at hcv
  have hcv := hcv.eq hr
  obtain ⟨h1, h2⟩ := jarr (E := E) (t := 0) (f := V r q) hj hN hx
  refine W.iast F.1 F.2.1 hcv (ArrOf_t hT 0 rfl _ _) (fun z => by cases z) h1 rfl rfl hdg fun H' e1 e2 e3 => ?_
  subst hx
  refine kk H' _ ⟨b1.upd hT.2.1 hL ?_ e3, b2.put e2 e3 ⟨r, q, ⟨hlv, hr⟩, rfl⟩, e2.trans b3⟩
  unfold cellV
  rw [hk, if_neg (by show ¬ 10 < 10; omega), show ((10, N) : Nat × Nat).1 - 10 = 0 from rfl]
  refine arA.of ?_
  rw [e1, nI_clamp (Nat.lt_trans hj hN), arrV_store]
abbrev W1 (E : mE) (V : Vs) : Vs := vs (vs V 13 1 (fun _ => .int 0)) 13 0 (updV ((vs V 13 1 (fun _ => .int 0)) 13 0) 0 (.ref (ea E 13 1)))
abbrev W2 (E : mE) (V : Vs) : Vs := vs (vs (W1 E V) 13 2 (fun _ => .int 0)) 13 0 (updV ((vs (W1 E V) 13 2 (fun _ => .int 0)) 13 0) 1 (.ref (ea E 13 2)))
abbrev W3 (E : mE) (V : Vs) : Vs := vs (vs (W2 E V) 13 3 (fun _ => .int 0)) 13 0 (updV ((vs (W2 E V) 13 3 (fun _ => .int 0)) 13 0) 2 (.ref (ea E 13 3)))
abbrev W4 (E : mE) (V : Vs) : Vs := vs (vs (W3 E V) 13 4 (fun _ => .int 0)) 13 0 (updV ((vs (W3 E V) 13 4 (fun _ => .int 0)) 13 0) 4 (.ref (ea E 13 4)))
abbrev W5 (E : mE) (V : Vs) : Vs := vs (vs (W4 E V) 13 5 (fun _ => .int 0)) 13 0 (updV ((vs (W4 E V) 13 5 (fun _ => .int 0)) 13 0) 5 (.ref (ea E 13 5)))
abbrev W6 (E : mE) (V : Vs) : Vs := vs (vs (W5 E V) 13 6 (fun _ => .int 0)) 13 0 (updV ((vs (W5 E V) 13 6 (fun _ => .int 0)) 13 0) 6 (.ref (ea E 13 6)))
abbrev W7 (E : mE) (V : Vs) : Vs := vs (vs (W6 E V) 13 7 (fun _ => .int 0)) 13 0 (updV ((vs (W6 E V) 13 7 (fun _ => .int 0)) 13 0) 9 (.ref (ea E 13 7)))
abbrev U0 (E : mE) (V : Vs) : Vs := vs (W7 E V) 13 1 (updV ((W7 E V) 13 1) 0 (.int 20))
abbrev U1 (E : mE) (V : Vs) : Vs := vs (U0 E V) 13 1 (updV ((U0 E V) 13 1) 1 (.int 24))
abbrev U2 (E : mE) (V : Vs) : Vs := vs (U1 E V) 13 1 (updV ((U1 E V) 13 1) 2 (.int 1))
abbrev U3 (E : mE) (V : Vs) : Vs := vs (U2 E V) 13 1 (updV ((U2 E V) 13 1) 3 (.int 3))
abbrev U4 (E : mE) (V : Vs) : Vs := vs (U3 E V) 13 1 (updV ((U3 E V) 13 1) 4 (.int 1))
abbrev U5 (E : mE) (V : Vs) : Vs := vs (U4 E V) 13 1 (updV ((U4 E V) 13 1) 5 (.int 1))
set_option maxHeartbeats 4000000 in
set_option maxRecDepth 100000 in
theorem c_X7_init (l : Launch) (E : mE) (V : Vs) (L : Nat → Nat → Prop) (n : Nat) (hL0 : L 13 0) (hA : ∀ q, 1 ≤ q → q < 8 → ea E 13 q = n + (q - 1)) :
    CtB l E yX7_init cX7_init 1 1 60 7 3122 [.ref (ea E 13 0)] V L n (U5 E V) (fun r' q' => (fun r' q' => (fun r' q' => (fun r' q' => (fun r' q' => (fun r' q' => (fun r' q' => L r' q' ∨ (r' = 13 ∧ q' = 1)) r' q' ∨ (r' = 13 ∧ q' = 2)) r' q' ∨ (r' = 13 ∧ q' = 3)) r' q' ∨ (r' = 13 ∧ q' = 4)) r' q' ∨ (r' = 13 ∧ q' = 5)) r' q' ∨ (r' = 13 ∧ q' = 6)) r' q' ∨ (r' = 13 ∧ q' = 7)) (n + 7) := by
  refine bMet (by decide +kernel) (Nat.le_of_ble_eq_true rfl) ?_
  intro p e s m below meth c ls F hT hr0 hlk hnm hB hl
  have F : CallFix p m c cX7_init 1 s _ TB RX7 := F
  have hl : lv_has ls 1 [(0, .ref (ea E 13 0))] := hl
  refine lv_aload_n F.1 F.2.1 dX7_init_0 rfl (lv_at hl 0 rfl) ?_
  refine bobj F hl.1 co_X7 (Nat.le_of_ble_eq_true rfl) (Nat.le_of_ble_eq_true rfl) dX7_init_1 ?_
  refine lv_aload_n F.1 F.2.1 dX7_init_4 rfl (lv_at hl 0 rfl) ?_
  refine lv_sipush (v := 280) F.1 F.2.1 dX7_init_5 (by decide) ?_
  refine bnewi (r := 13) (q := 1) (t := 0) (N := 280) F hT hB rfl (fun C h => by cases h) ca_int (lI 280) (by decide) (by decide) ((hA 1 (by decide) (by decide)).trans (by omega)) oM1.1 oM1.2 (Nat.le_of_ble_eq_true rfl) (Nat.le_of_ble_eq_true rfl) dX7_init_8 (fun H hB => ?_)
  refine bputF (ty := tyX7 0) F hT hB (rfl : kcl[7]? = some (RX7, TX7, 13)) tyX7_ok nmX7 fw_X7_7 rfl hnm rfl rfl rfl rfl (Or.inl hL0) (by decide) oM0.2 (by decide) dX7_init_10 (fun H locs hB => ?_)
  refine lv_aload_n F.1 F.2.1 dX7_init_13 rfl (lv_at hl 0 rfl) ?_
  refine lv_sipush (v := 280) F.1 F.2.1 dX7_init_14 (by decide) ?_
  refine bnewi (r := 13) (q := 2) (t := 0) (N := 280) F hT hB rfl (fun C h => by cases h) ca_int (lI 280) (by decide) (by decide) ((hA 2 (by decide) (by decide)).trans (by omega)) oM2.1 oM2.2 (Nat.le_of_ble_eq_true rfl) (Nat.le_of_ble_eq_true rfl) dX7_init_17 (fun H hB => ?_)
  refine bputF (ty := tyX7 1) F hT hB (rfl : kcl[7]? = some (RX7, TX7, 13)) tyX7_ok nmX7 fw_X7_13 rfl hnm rfl rfl rfl rfl (Or.inl (Or.inl hL0)) (by decide) oM0.2 (by decide) dX7_init_19 (fun H locs hB => ?_)
  refine lv_aload_n F.1 F.2.1 dX7_init_22 rfl (lv_at hl 0 rfl) ?_
  refine lv_sipush (v := 1680) F.1 F.2.1 dX7_init_23 (by decide) ?_
  refine bnewi (r := 13) (q := 3) (t := 0) (N := 1680) F hT hB rfl (fun C h => by cases h) ca_int (lI 1680) (by decide) (by decide) ((hA 3 (by decide) (by decide)).trans (by omega)) oM3.1 oM3.2 (Nat.le_of_ble_eq_true rfl) (Nat.le_of_ble_eq_true rfl) dX7_init_26 (fun H hB => ?_)
  refine bputF (ty := tyX7 2) F hT hB (rfl : kcl[7]? = some (RX7, TX7, 13)) tyX7_ok nmX7 fw_X7_16 rfl hnm rfl rfl rfl rfl (Or.inl (Or.inl (Or.inl hL0))) (by decide) oM0.2 (by decide) dX7_init_28 (fun H locs hB => ?_)
  refine lv_aload_n F.1 F.2.1 dX7_init_31 rfl (lv_at hl 0 rfl) ?_
  refine lv_sipush (v := 560) F.1 F.2.1 dX7_init_32 (by decide) ?_
  refine bnewi (r := 13) (q := 4) (t := 0) (N := 560) F hT hB rfl (fun C h => by cases h) ca_int (lI 560) (by decide) (by decide) ((hA 4 (by decide) (by decide)).trans (by omega)) oM4.1 oM4.2 (Nat.le_of_ble_eq_true rfl) (Nat.le_of_ble_eq_true rfl) dX7_init_35 (fun H hB => ?_)
  refine bputF (ty := tyX7 4) F hT hB (rfl : kcl[7]? = some (RX7, TX7, 13)) tyX7_ok nmX7 fw_X7_19 rfl hnm rfl rfl rfl rfl (Or.inl (Or.inl (Or.inl (Or.inl hL0)))) (by decide) oM0.2 (by decide) dX7_init_37 (fun H locs hB => ?_)
  refine lv_aload_n F.1 F.2.1 dX7_init_40 rfl (lv_at hl 0 rfl) ?_
  refine lv_iconst (v := 2) F.1 F.2.1 dX7_init_41 (by decide) ?_
  refine bnewi (r := 13) (q := 5) (t := 1) (N := 2) F hT hB rfl (fun C h => by cases h) ca_boolean (lI 2) (by decide) (by decide) ((hA 5 (by decide) (by decide)).trans (by omega)) oM5.1 oM5.2 (Nat.le_of_ble_eq_true rfl) (Nat.le_of_ble_eq_true rfl) dX7_init_42 (fun H hB => ?_)
  refine bputF (ty := tyX7 5) F hT hB (rfl : kcl[7]? = some (RX7, TX7, 13)) tyX7_ok nmX7 fw_X7_22 rfl hnm rfl rfl rfl rfl (Or.inl (Or.inl (Or.inl (Or.inl (Or.inl hL0))))) (by decide) oM0.2 (by decide) dX7_init_44 (fun H locs hB => ?_)
  refine lv_aload_n F.1 F.2.1 dX7_init_47 rfl (lv_at hl 0 rfl) ?_
  refine lv_bipush (v := 80) F.1 F.2.1 dX7_init_48 (by decide) ?_
  refine bnewi (r := 13) (q := 6) (t := 0) (N := 80) F hT hB rfl (fun C h => by cases h) ca_int (lI 80) (by decide) (by decide) ((hA 6 (by decide) (by decide)).trans (by omega)) oM6.1 oM6.2 (Nat.le_of_ble_eq_true rfl) (Nat.le_of_ble_eq_true rfl) dX7_init_50 (fun H hB => ?_)
  refine bputF (ty := tyX7 6) F hT hB (rfl : kcl[7]? = some (RX7, TX7, 13)) tyX7_ok nmX7 fw_X7_26 rfl hnm rfl rfl rfl rfl (Or.inl (Or.inl (Or.inl (Or.inl (Or.inl (Or.inl hL0)))))) (by decide) oM0.2 (by decide) dX7_init_52 (fun H locs hB => ?_)
  refine lv_aload_n F.1 F.2.1 dX7_init_55 rfl (lv_at hl 0 rfl) ?_
  refine lv_sipush (v := 240) F.1 F.2.1 dX7_init_56 (by decide) ?_
  refine bnewi (r := 13) (q := 7) (t := 0) (N := 240) F hT hB rfl (fun C h => by cases h) ca_int (lI 240) (by decide) (by decide) ((hA 7 (by decide) (by decide)).trans (by omega)) oM7.1 oM7.2 (Nat.le_of_ble_eq_true rfl) (Nat.le_of_ble_eq_true rfl) dX7_init_59 (fun H hB => ?_)
  refine bputF (ty := tyX7 9) F hT hB (rfl : kcl[7]? = some (RX7, TX7, 13)) tyX7_ok nmX7 fw_X7_29 rfl hnm rfl rfl rfl rfl (Or.inl (Or.inl (Or.inl (Or.inl (Or.inl (Or.inl (Or.inl hL0))))))) (by decide) oM0.2 (by decide) dX7_init_61 (fun H locs hB => ?_)
  refine lv_aload_n F.1 F.2.1 dX7_init_64 rfl (lv_at hl 0 rfl) ?_
  refine bgetR (r' := 13) (q' := 1) F hT hB fw_X7_7 (Or.inl (Or.inl (Or.inl (Or.inl (Or.inl (Or.inl (Or.inl hL0))))))) oM0.2 (by decide) (by simp [vs, updV]) dX7_init_65 ?_
  refine lv_iconst (v := 0) F.1 F.2.1 dX7_init_68 (by decide) ?_
  refine lv_bipush (v := 20) F.1 F.2.1 dX7_init_69 (by decide) ?_
  refine biast (N := 280) (j := 0) F hT hB (Or.inl (Or.inl (Or.inl (Or.inl (Or.inl (Or.inl (Or.inr ⟨rfl, rfl⟩))))))) oM1.2 (by decide) (by decide) (by decide) (lI 0) dX7_init_71 (fun H locs hB => ?_)
  refine lv_aload_n F.1 F.2.1 dX7_init_72 rfl (lv_at hl 0 rfl) ?_
  refine bgetR (r' := 13) (q' := 1) F hT hB fw_X7_7 (Or.inl (Or.inl (Or.inl (Or.inl (Or.inl (Or.inl (Or.inl hL0))))))) oM0.2 (by decide) (by simp [vs, updV]) dX7_init_73 ?_
  refine lv_iconst (v := 1) F.1 F.2.1 dX7_init_76 (by decide) ?_
  refine lv_bipush (v := 24) F.1 F.2.1 dX7_init_77 (by decide) ?_
  refine biast (N := 280) (j := 1) F hT hB (Or.inl (Or.inl (Or.inl (Or.inl (Or.inl (Or.inl (Or.inr ⟨rfl, rfl⟩))))))) oM1.2 (by decide) (by decide) (by decide) (lI 1) dX7_init_79 (fun H locs hB => ?_)
  refine lv_aload_n F.1 F.2.1 dX7_init_80 rfl (lv_at hl 0 rfl) ?_
  refine bgetR (r' := 13) (q' := 1) F hT hB fw_X7_7 (Or.inl (Or.inl (Or.inl (Or.inl (Or.inl (Or.inl (Or.inl hL0))))))) oM0.2 (by decide) (by simp [vs, updV]) dX7_init_81 ?_
  refine lv_iconst (v := 2) F.1 F.2.1 dX7_init_84 (by decide) ?_
  refine lv_iconst (v := 1) F.1 F.2.1 dX7_init_85 (by decide) ?_
  refine biast (N := 280) (j := 2) F hT hB (Or.inl (Or.inl (Or.inl (Or.inl (Or.inl (Or.inl (Or.inr ⟨rfl, rfl⟩))))))) oM1.2 (by decide) (by decide) (by decide) (lI 2) dX7_init_86 (fun H locs hB => ?_)
  refine lv_aload_n F.1 F.2.1 dX7_init_87 rfl (lv_at hl 0 rfl) ?_
  refine bgetR (r' := 13) (q' := 1) F hT hB fw_X7_7 (Or.inl (Or.inl (Or.inl (Or.inl (Or.inl (Or.inl (Or.inl hL0))))))) oM0.2 (by decide) (by simp [vs, updV]) dX7_init_88 ?_
  refine lv_iconst (v := 3) F.1 F.2.1 dX7_init_91 (by decide) ?_
  refine lv_iconst (v := 3) F.1 F.2.1 dX7_init_92 (by decide) ?_
  refine biast (N := 280) (j := 3) F hT hB (Or.inl (Or.inl (Or.inl (Or.inl (Or.inl (Or.inl (Or.inr ⟨rfl, rfl⟩))))))) oM1.2 (by decide) (by decide) (by decide) (lI 3) dX7_init_93 (fun H locs hB => ?_)
  refine lv_aload_n F.1 F.2.1 dX7_init_94 rfl (lv_at hl 0 rfl) ?_
  refine bgetR (r' := 13) (q' := 1) F hT hB fw_X7_7 (Or.inl (Or.inl (Or.inl (Or.inl (Or.inl (Or.inl (Or.inl hL0))))))) oM0.2 (by decide) (by simp [vs, updV]) dX7_init_95 ?_
  refine lv_iconst (v := 4) F.1 F.2.1 dX7_init_98 (by decide) ?_
  refine lv_iconst (v := 1) F.1 F.2.1 dX7_init_99 (by decide) ?_
  refine biast (N := 280) (j := 4) F hT hB (Or.inl (Or.inl (Or.inl (Or.inl (Or.inl (Or.inl (Or.inr ⟨rfl, rfl⟩))))))) oM1.2 (by decide) (by decide) (by decide) (lI 4) dX7_init_100 (fun H locs hB => ?_)
  refine lv_aload_n F.1 F.2.1 dX7_init_101 rfl (lv_at hl 0 rfl) ?_
  refine bgetR (r' := 13) (q' := 1) F hT hB fw_X7_7 (Or.inl (Or.inl (Or.inl (Or.inl (Or.inl (Or.inl (Or.inl hL0))))))) oM0.2 (by decide) (by simp [vs, updV]) dX7_init_102 ?_
  refine lv_iconst (v := 5) F.1 F.2.1 dX7_init_105 (by decide) ?_
  refine lv_iconst (v := 1) F.1 F.2.1 dX7_init_106 (by decide) ?_
  refine biast (N := 280) (j := 5) F hT hB (Or.inl (Or.inl (Or.inl (Or.inl (Or.inl (Or.inl (Or.inr ⟨rfl, rfl⟩))))))) oM1.2 (by decide) (by decide) (by decide) (lI 5) dX7_init_107 (fun H locs hB => ?_)
  exact brv F hr0 hlk hB dX7_init_108 (fun _ _ h => ⟨h, rfl⟩) rfl rfl rfl
end
section
/-! from cells laid to the heap as numbers -/
theorem arrV_cg {cA : ClassId} {n : Nat} {f g : Nat → Value} (h : ∀ k, k < n → f k = g k) : arrV cA n f = arrV cA n g := by
  unfold arrV
  congr 1
  apply Array.ext
  · simp
  · intro i h1 h2
    simp at h1
    simpa using h i (by omega)
theorem cellV.congr {E : mE} {f g : Nat → Value} {H : Heap} {r p : Nat} (h : cellV E f H r p) (hfg : ∀ k, k < (kd r p).2 → f k = g k) (hN : ∀ q, (kd r p).1 < 10 → kcl[(kd r p).1]? = some q → q.2.2 = (kd r p).2) : cellV E g H r p := by
  unfold cellV at h ⊢
  split
  · next h2 =>
    rw [if_pos h2] at h
    obtain ⟨q, g1, g2⟩ := h
    exact ⟨q, g1, g2.to fun k hk => hfg k (by rw [← hN q h2 g1]; exact hk)⟩
  · next h2 =>
    rw [if_neg h2] at h
    unfold arA at h ⊢
    rw [← arrV_cg hfg]
    exact h
theorem kdN {r p : Nat} (h : live r p) : ∀ q, (kd r p).1 < 10 → kcl[(kd r p).1]? = some q → q.2.2 = (kd r p).2 := by
  unfold kd
  repeat' split
  all_goals first | (intro q h1; exact absurd h1 (by decide)) | (intro q _ h2; cases h2; rfl)
theorem PB.mb2 {E : mE} {V : Vs} {L : Nat → Nat → Prop} {H : Heap} {μ : Mu} (h : PB E V L H) (hL : ∀ r p, live r p → L r p ∧ ∀ k, k < (kd r p).2 → V r p k = sl E μ r p k) : MB E μ H := by
  intro r p hl
  obtain ⟨h1, h2⟩ := hL r p hl
  exact (h r p h1).2.congr h2 (kdN hl)
end
section
/-! the tables' words at the law's start -/
theorem ra_arr {s : State} {args : Array Value} {ty : FieldType} (h : (Cond.arrayClass ty).before args s = true) (ho : ∀ C, ty ≠ .object C) : ∃ cA : ClassId, ArrOfT s cA ty ∧ va_RA s cA ty := by
  obtain ⟨c, k, comp, h1, h2, h3⟩ := Cond.arrayClass_spec h
  refine ⟨c, fun N z => ⟨(fun k h => by cases h), k, h2, comp, h3⟩, ?_⟩
  cases ty with
  | object C => exact absurd rfl (ho C)
  | _ => exact h1
theorem ra_obj {s : State} {args : Array Value} {C : String} (h : (Cond.arrayOver (.object C)).before args s = true) : ∃ cA : ClassId, ArrOfT s cA (.object C) ∧ va_RA s cA (.object C) := by
  obtain ⟨comp, c, k, h1, h2, h3, h4, h5⟩ := Cond.arrayOver_spec h
  exact ⟨c, fun N z => ⟨(fun k h => by cases h), k, h3, comp, h4⟩, k, comp, h3, h4, h1, h5⟩
theorem tw {w : Cond} (i : Nat) (h : lw_tbl[i]? = some w) : w ∈ lw_tbl := List.mem_of_getElem? h
theorem ex_K {s : State} {args : Array Value} (hts : ∀ w ∈ lw_tbl, w.before args s = true) : ∃ (D : va_G) (cA : Nat → ClassId), va_K D kcl (tyL (D, cA, fun _ _ => 0)) s := by
  obtain ⟨c0, i0, k0⟩ := u_known (ws := TB) (n := 3) (fun w hw => hts w (tb_tbl hw)) ls_0 (hts _ (tb_tbl ci_X0))
  obtain ⟨c1, i1, k1⟩ := u_known (ws := TB) (n := 16) (fun w hw => hts w (tb_tbl hw)) ls_1 (hts _ (tb_tbl ci_X1))
  obtain ⟨c2, i2, k2⟩ := u_known (ws := TB) (n := 2) (fun w hw => hts w (tb_tbl hw)) ls_2 (hts _ (tb_tbl ci_X2))
  obtain ⟨c3, i3, k3⟩ := u_known (ws := TB) (n := 11) (fun w hw => hts w (tb_tbl hw)) ls_3 (hts _ (tb_tbl ci_X3))
  obtain ⟨c4, i4, k4⟩ := u_known (ws := TB) (n := 4) (fun w hw => hts w (tb_tbl hw)) ls_4 (hts _ (tb_tbl ci_X4))
  obtain ⟨c5, i5, k5⟩ := u_known (ws := TB) (n := 3) (fun w hw => hts w (tb_tbl hw)) ls_5 (hts _ (tb_tbl ci_X5))
  obtain ⟨c6, i6, k6⟩ := u_known (ws := TB) (n := 6) (fun w hw => hts w (tb_tbl hw)) ls_6 (hts _ (tb_tbl ci_X6))
  obtain ⟨c7, i7, k7⟩ := u_known (ws := TB) (n := 13) (fun w hw => hts w (tb_tbl hw)) ls_7 (hts _ (tb_tbl ci_X7))
  obtain ⟨a0, x0⟩ := ra_arr (hts _ (tw 124 (by decide +kernel) : Cond.arrayClass .int ∈ lw_tbl)) (fun C h => by cases h)
  obtain ⟨a1, x1⟩ := ra_arr (hts _ (tw 224 (by decide +kernel) : Cond.arrayClass .boolean ∈ lw_tbl)) (fun C h => by cases h)
  obtain ⟨a2, x2⟩ := ra_arr (hts _ (tw 239 (by decide +kernel) : Cond.arrayClass .char ∈ lw_tbl)) (fun C h => by cases h)
  obtain ⟨a3, x3⟩ := ra_obj (hts _ (tw 61 (by decide +kernel) : Cond.arrayOver (.object RX1) ∈ lw_tbl))
  obtain ⟨a4, x4⟩ := ra_obj (hts _ (tw 126 (by decide +kernel) : Cond.arrayOver (.object RX5) ∈ lw_tbl))
  obtain ⟨a5, x5⟩ := ra_obj (hts _ (tw 146 (by decide +kernel) : Cond.arrayOver (.object RX4) ∈ lw_tbl))
  obtain ⟨a6, x6⟩ := ra_obj (hts _ (tw 204 (by decide +kernel) : Cond.arrayOver (.object RX3) ∈ lw_tbl))
  refine ⟨(fun c => match c with | 0 => c0 | 1 => c1 | 2 => c2 | 3 => c3 | 4 => c4 | 5 => c5 | 6 => c6 | _ => c7, fun c => match c with | 0 => i0 | 1 => i1 | 2 => i2 | 3 => i3 | 4 => i4 | 5 => i5 | 6 => i6 | _ => i7),
    fun t => match t with | 0 => a0 | 1 => a1 | 2 => a2 | 3 => a3 | 4 => a4 | 5 => a5 | _ => a6, ?_, ?_⟩
  · intro c q h
    match c, h with
    | 0, h => cases h; exact k0
    | 1, h => cases h; exact k1
    | 2, h => cases h; exact k2
    | 3, h => cases h; exact k3
    | 4, h => cases h; exact k4
    | 5, h => cases h; exact k5
    | 6, h => cases h; exact k6
    | 7, h => cases h; exact k7
    | n + 8, h => cases h
  · intro t q h
    match t, h with
    | 0, h => cases h; exact x0
    | 1, h => cases h; exact x1
    | 2, h => cases h; exact x2
    | 3, h => cases h; exact x3
    | 4, h => cases h; exact x4
    | 5, h => cases h; exact x5
    | 6, h => cases h; exact x6
    | n + 7, h => cases h
theorem ex_St0 {s : State} {args : Array Value} (hts : ∀ w ∈ lw_tbl, w.before args s = true) : ∃ (D : va_G) (cA : Nat → ClassId), St0 D cA s := by
  obtain ⟨D, cA, hK⟩ := ex_K hts
  refine ⟨D, cA, hK, fun q hq => ?_, fun q hq => ?_, fun C hC => ?_, ?_⟩
  · unfold nwF at hq
    simp only [List.mem_cons, List.not_mem_nil, or_false] at hq
    rcases hq with rfl | rfl | rfl
    · exact va_any rfl (hts _ (tw 51 (by decide +kernel)))
    · exact va_any rfl (hts _ (tw 293 (by decide +kernel)))
    · exact va_any rfl (hts _ (tw 295 (by decide +kernel)))
  · unfold nwM at hq
    simp only [List.mem_cons, List.not_mem_nil, or_false] at hq
    rcases hq with rfl | rfl | rfl | rfl | rfl | rfl
    · exact va_any rfl (hts _ (tw 63 (by decide +kernel)))
    · exact va_any rfl (hts _ (tw 128 (by decide +kernel)))
    · exact va_any rfl (hts _ (tw 148 (by decide +kernel)))
    · exact va_any rfl (hts _ (tw 290 (by decide +kernel)))
    · exact va_any rfl (hts _ (tw 543 (by decide +kernel)))
    · exact va_any rfl (hts _ (tw 567 (by decide +kernel)))
  · simp only [List.mem_cons, List.not_mem_nil, or_false] at hC
    rcases hC with rfl | rfl | rfl | rfl
    · exact va_AO.of (hts _ (tw 61 (by decide +kernel)))
    · exact va_AO.of (hts _ (tw 126 (by decide +kernel)))
    · exact va_AO.of (hts _ (tw 146 (by decide +kernel)))
    · exact va_AO.of (hts _ (tw 204 (by decide +kernel)))
  · exact va_any rfl (hts _ (tw 58 (by decide +kernel)))
end
section
theorem zz_end : True := trivial
end
