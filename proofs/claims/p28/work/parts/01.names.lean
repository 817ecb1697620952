-- ===== PART A: goes FIRST, ahead of the names: the tables' words, and 'selects' of the private methods out of them =====
/-- a private method of a class that the tables say can be made, by its rows of tables_1 -/
def lw_okq (q : MethodName × Nat) : Prop := (q.1.cls ≠ "java/lang/invoke/MethodHandle" ∧ q.1.cls ≠ "java/lang/invoke/VarHandle") ∧ Cond.instantiable q.1.cls q.2 ∈ tables_1 ∧ Cond.privateMethod q.1 ∈ tables_1 ∧ Cond.instanceMethod q.1 ∈ tables_1
theorem lw_p0 : lw_okq (⟨"TicketJournal", "knownNumber", "(I)I"⟩, 5) := ⟨⟨by decide +kernel, by decide +kernel⟩, List.mem_of_getElem? (i := 11) (by decide +kernel), List.mem_of_getElem? (i := 187) (by decide +kernel), List.mem_of_getElem? (i := 188) (by decide +kernel)⟩
theorem lw_p1 : lw_okq (⟨"TicketJournal$Past", "stateAt", "(I)LTicketJournal$Printer;"⟩, 3) := ⟨⟨by decide +kernel, by decide +kernel⟩, List.mem_of_getElem? (i := 126) (by decide +kernel), List.mem_of_getElem? (i := 225) (by decide +kernel), List.mem_of_getElem? (i := 226) (by decide +kernel)⟩
theorem lw_p2 : lw_okq (⟨"TicketJournal$Printer", "writeRecord", "(III)Z"⟩, 7) := ⟨⟨by decide +kernel, by decide +kernel⟩, List.mem_of_getElem? (i := 19) (by decide +kernel), List.mem_of_getElem? (i := 249) (by decide +kernel), List.mem_of_getElem? (i := 250) (by decide +kernel)⟩
theorem lw_p3 : lw_okq (⟨"TicketJournal$Printer", "beginBlock", "()Z"⟩, 7) := ⟨⟨by decide +kernel, by decide +kernel⟩, List.mem_of_getElem? (i := 19) (by decide +kernel), List.mem_of_getElem? (i := 253) (by decide +kernel), List.mem_of_getElem? (i := 254) (by decide +kernel)⟩
theorem lw_p4 : lw_okq (⟨"TicketJournal$Flash", "spendOperation", "()Z"⟩, 4) := ⟨⟨by decide +kernel, by decide +kernel⟩, List.mem_of_getElem? (i := 25) (by decide +kernel), List.mem_of_getElem? (i := 269) (by decide +kernel), List.mem_of_getElem? (i := 270) (by decide +kernel)⟩
theorem lw_p5 : lw_okq (⟨"TicketJournal$Printer", "fillPlace", "(III)Z"⟩, 7) := ⟨⟨by decide +kernel, by decide +kernel⟩, List.mem_of_getElem? (i := 19) (by decide +kernel), List.mem_of_getElem? (i := 277) (by decide +kernel), List.mem_of_getElem? (i := 278) (by decide +kernel)⟩
theorem lw_p6 : lw_okq (⟨"TicketJournal$Flash", "isEmpty", "(II)Z"⟩, 4) := ⟨⟨by decide +kernel, by decide +kernel⟩, List.mem_of_getElem? (i := 25) (by decide +kernel), List.mem_of_getElem? (i := 309) (by decide +kernel), List.mem_of_getElem? (i := 310) (by decide +kernel)⟩
theorem lw_p7 : lw_okq (⟨"TicketJournal$Flash", "isFollowed", "(I)Z"⟩, 4) := ⟨⟨by decide +kernel, by decide +kernel⟩, List.mem_of_getElem? (i := 25) (by decide +kernel), List.mem_of_getElem? (i := 410) (by decide +kernel), List.mem_of_getElem? (i := 411) (by decide +kernel)⟩
theorem lw_p8 : lw_okq (⟨"TicketJournal", "isImage", "(I)Z"⟩, 5) := ⟨⟨by decide +kernel, by decide +kernel⟩, List.mem_of_getElem? (i := 11) (by decide +kernel), List.mem_of_getElem? (i := 434) (by decide +kernel), List.mem_of_getElem? (i := 435) (by decide +kernel)⟩
theorem lw_p9 : lw_okq (⟨"TicketJournal$Journal", "add", "(LTicketJournal$Flash;II)V"⟩, 2) := ⟨⟨by decide +kernel, by decide +kernel⟩, List.mem_of_getElem? (i := 113) (by decide +kernel), List.mem_of_getElem? (i := 462) (by decide +kernel), List.mem_of_getElem? (i := 463) (by decide +kernel)⟩
theorem lw_p10 : lw_okq (⟨"TicketJournal$Journal", "setDetail", "(II)V"⟩, 2) := ⟨⟨by decide +kernel, by decide +kernel⟩, List.mem_of_getElem? (i := 113) (by decide +kernel), List.mem_of_getElem? (i := 467) (by decide +kernel), List.mem_of_getElem? (i := 468) (by decide +kernel)⟩
theorem lw_p11 : lw_okq (⟨"TicketJournal", "trySale", "(II)V"⟩, 5) := ⟨⟨by decide +kernel, by decide +kernel⟩, List.mem_of_getElem? (i := 11) (by decide +kernel), List.mem_of_getElem? (i := 526) (by decide +kernel), List.mem_of_getElem? (i := 527) (by decide +kernel)⟩
def lw_privs_1 : List (MethodName × Nat) := [(⟨"TicketJournal", "knownNumber", "(I)I"⟩, 5), (⟨"TicketJournal$Past", "stateAt", "(I)LTicketJournal$Printer;"⟩, 3), (⟨"TicketJournal$Printer", "writeRecord", "(III)Z"⟩, 7), (⟨"TicketJournal$Printer", "beginBlock", "()Z"⟩, 7), (⟨"TicketJournal$Flash", "spendOperation", "()Z"⟩, 4), (⟨"TicketJournal$Printer", "fillPlace", "(III)Z"⟩, 7), (⟨"TicketJournal$Flash", "isEmpty", "(II)Z"⟩, 4), (⟨"TicketJournal$Flash", "isFollowed", "(I)Z"⟩, 4), (⟨"TicketJournal", "isImage", "(I)Z"⟩, 5), (⟨"TicketJournal$Journal", "add", "(LTicketJournal$Flash;II)V"⟩, 2), (⟨"TicketJournal$Journal", "setDetail", "(II)V"⟩, 2), (⟨"TicketJournal", "trySale", "(II)V"⟩, 5)]
theorem lw_r1 : ∀ q ∈ lw_privs_1, lw_okq q := List.forall_mem_cons.mpr ⟨lw_p0, List.forall_mem_cons.mpr ⟨lw_p1, List.forall_mem_cons.mpr ⟨lw_p2, List.forall_mem_cons.mpr ⟨lw_p3, List.forall_mem_cons.mpr ⟨lw_p4, List.forall_mem_cons.mpr ⟨lw_p5, List.forall_mem_cons.mpr ⟨lw_p6, List.forall_mem_cons.mpr ⟨lw_p7, List.forall_mem_cons.mpr ⟨lw_p8, List.forall_mem_cons.mpr ⟨lw_p9, List.forall_mem_cons.mpr ⟨lw_p10, List.forall_mem_cons.mpr ⟨lw_p11, fun _ h => absurd h List.not_mem_nil⟩⟩⟩⟩⟩⟩⟩⟩⟩⟩⟩⟩
def lw_privs : List (MethodName × Nat) := lw_privs_1
def lw_tbl : List Cond := k2_sels lw_privs ++ tables_1
theorem lw_privs_ok : ∀ q ∈ lw_privs, lw_okq q := lw_r1
/-- the streams that the claim lets the run draw from -/
abbrev lw_cs : List Choice := [Jvm.Choice.named "NaN.bits"]
theorem lw_bits : nanBits ∈ lw_cs := by first | decide | exact List.mem_cons_self | simp [lw_cs, nanBits]
-- ===== end of PART A; then your names; then what follows =====
def RX0 : String := "TicketJournal$Flash"
def TX0 : u_T := fun k => match k with
  | 0 => ("TicketJournal$Flash", "words", "[I", true)
  | 1 => ("TicketJournal$Flash", "erasures", "[I", true)
  | 2 => ("TicketJournal$Flash", "done", "I", false)
  | _ => ("TicketJournal$Flash", "left", "I", false)
def tyX0 : Nat → FieldType := fun k => match k with
  | 0 => .array .int
  | 1 => .array .int
  | 2 => .int
  | _ => .int
abbrev wsX00 : List Cond := u_ws RX0 TX0 4
theorem nmX0 : ∀ a, a < 4 → ∀ b, b < 4 → a ≠ b → (TX0 a).2.1 ≠ (TX0 b).2.1 := by decide +kernel
theorem tyX0_ok : ∀ k, k < 4 → parseFieldDescriptor (TX0 k).2.2.1 = some (tyX0 k) := by decide +kernel
abbrev cX0_init : ByteArray := prog_2_method_1_code
def yX0_init : MethodName := ⟨RX0, "<init>", "()V"⟩
abbrev cX0_copyFrom : ByteArray := prog_2_method_2_code
def yX0_copyFrom : MethodName := ⟨RX0, "copyFrom", "(LTicketJournal$Flash;)V"⟩
abbrev cX0_read : ByteArray := prog_2_method_3_code
def yX0_read : MethodName := ⟨RX0, "read", "(II)I"⟩
abbrev cX0_write : ByteArray := prog_2_method_4_code
def yX0_write : MethodName := ⟨RX0, "write", "(III)Z"⟩
abbrev cX0_erase : ByteArray := prog_2_method_5_code
def yX0_erase : MethodName := ⟨RX0, "erase", "(I)Z"⟩
abbrev cX0_spendOperation : ByteArray := prog_2_method_6_code
def yX0_spendOperation : MethodName := ⟨RX0, "spendOperation", "()Z"⟩
abbrev cX0_erasuresOf : ByteArray := prog_2_method_7_code
def yX0_erasuresOf : MethodName := ⟨RX0, "erasuresOf", "(I)I"⟩
abbrev cX0_recordWord : ByteArray := prog_2_method_8_code
def yX0_recordWord : MethodName := ⟨RX0, "recordWord", "(III)I"⟩
abbrev cX0_isWhole : ByteArray := prog_2_method_9_code
def yX0_isWhole : MethodName := ⟨RX0, "isWhole", "(I)Z"⟩
abbrev cX0_stateOf : ByteArray := prog_2_method_10_code
def yX0_stateOf : MethodName := ⟨RX0, "stateOf", "(II)I"⟩
abbrev cX0_isEmpty : ByteArray := prog_2_method_11_code
def yX0_isEmpty : MethodName := ⟨RX0, "isEmpty", "(II)Z"⟩
abbrev cX0_tallyIn : ByteArray := prog_2_method_12_code
def yX0_tallyIn : MethodName := ⟨RX0, "tallyIn", "(II)I"⟩
abbrev cX0_tally : ByteArray := prog_2_method_13_code
def yX0_tally : MethodName := ⟨RX0, "tally", "(I)I"⟩
abbrev cX0_newestBlock : ByteArray := prog_2_method_14_code
def yX0_newestBlock : MethodName := ⟨RX0, "newestBlock", "()I"⟩
abbrev cX0_isFollowed : ByteArray := prog_2_method_15_code
def yX0_isFollowed : MethodName := ⟨RX0, "isFollowed", "(I)Z"⟩
abbrev cX0_nextPlaceIn : ByteArray := prog_2_method_16_code
def yX0_nextPlaceIn : MethodName := ⟨RX0, "nextPlaceIn", "(I)I"⟩
def RX1 : String := "TicketJournal$Image"
def TX1 : u_T := fun k => match k with
  | 0 => ("TicketJournal$Image", "state", "LTicketJournal$Printer;", true)
  | _ => ("TicketJournal$Image", "filled", "Z", false)
def tyX1 : Nat → FieldType := fun k => match k with
  | 0 => .object "TicketJournal$Printer"
  | _ => .boolean
abbrev wsX10 : List Cond := u_ws RX1 TX1 2
theorem nmX1 : ∀ a, a < 2 → ∀ b, b < 2 → a ≠ b → (TX1 a).2.1 ≠ (TX1 b).2.1 := by decide +kernel
theorem tyX1_ok : ∀ k, k < 2 → parseFieldDescriptor (TX1 k).2.2.1 = some (tyX1 k) := by decide +kernel
abbrev cX1_init : ByteArray := prog_3_method_1_code
def yX1_init : MethodName := ⟨RX1, "<init>", "()V"⟩
abbrev cX1_store : ByteArray := prog_3_method_2_code
def yX1_store : MethodName := ⟨RX1, "store", "(LTicketJournal$Printer;)V"⟩
def RX2 : String := "TicketJournal$Journal"
def TX2 : u_T := fun k => match k with
  | 0 => ("TicketJournal$Journal", "details", "[I", true)
  | _ => ("TicketJournal$Journal", "count", "I", false)
def tyX2 : Nat → FieldType := fun k => match k with
  | 0 => .array .int
  | _ => .int
abbrev wsX20 : List Cond := u_ws RX2 TX2 2
theorem nmX2 : ∀ a, a < 2 → ∀ b, b < 2 → a ≠ b → (TX2 a).2.1 ≠ (TX2 b).2.1 := by decide +kernel
theorem tyX2_ok : ∀ k, k < 2 → parseFieldDescriptor (TX2 k).2.2.1 = some (tyX2 k) := by decide +kernel
abbrev cX2_init : ByteArray := prog_4_method_1_code
def yX2_init : MethodName := ⟨RX2, "<init>", "()V"⟩
abbrev cX2_gather : ByteArray := prog_4_method_2_code
def yX2_gather : MethodName := ⟨RX2, "gather", "(LTicketJournal$Flash;)LTicketJournal$Journal;"⟩
abbrev cX2_add : ByteArray := prog_4_method_3_code
def yX2_add : MethodName := ⟨RX2, "add", "(LTicketJournal$Flash;II)V"⟩
abbrev cX2_setDetail : ByteArray := prog_4_method_4_code
def yX2_setDetail : MethodName := ⟨RX2, "setDetail", "(II)V"⟩
abbrev cX2_detail : ByteArray := prog_4_method_5_code
def yX2_detail : MethodName := ⟨RX2, "detail", "(II)I"⟩
abbrev cX2_countOf : ByteArray := prog_4_method_6_code
def yX2_countOf : MethodName := ⟨RX2, "countOf", "(I)I"⟩
abbrev cX2_pricesOf : ByteArray := prog_4_method_7_code
def yX2_pricesOf : MethodName := ⟨RX2, "pricesOf", "(II)I"⟩
def RX3 : String := "TicketJournal$Memory"
def TX3 : u_T := fun k => match k with
  | 0 => ("TicketJournal$Memory", "current", "I", false)
  | 1 => ("TicketJournal$Memory", "next", "I", false)
  | 2 => ("TicketJournal$Memory", "number", "I", false)
  | 3 => ("TicketJournal$Memory", "sum", "I", false)
  | 4 => ("TicketJournal$Memory", "tickets", "I", false)
  | _ => ("TicketJournal$Memory", "paper", "I", false)
def tyX3 : Nat → FieldType := fun k => match k with
  | 0 => .int
  | 1 => .int
  | 2 => .int
  | 3 => .int
  | 4 => .int
  | _ => .int
abbrev wsX30 : List Cond := u_ws RX3 TX3 6
theorem nmX3 : ∀ a, a < 6 → ∀ b, b < 6 → a ≠ b → (TX3 a).2.1 ≠ (TX3 b).2.1 := by decide +kernel
theorem tyX3_ok : ∀ k, k < 6 → parseFieldDescriptor (TX3 k).2.2.1 = some (tyX3 k) := by decide +kernel
abbrev cX3_init : ByteArray := prog_5_method_1_code
def yX3_init : MethodName := ⟨RX3, "<init>", "()V"⟩
abbrev cX3_copyFrom : ByteArray := prog_5_method_2_code
def yX3_copyFrom : MethodName := ⟨RX3, "copyFrom", "(LTicketJournal$Memory;)V"⟩
abbrev cX3_forget : ByteArray := prog_5_method_3_code
def yX3_forget : MethodName := ⟨RX3, "forget", "()V"⟩
abbrev cX3_recall : ByteArray := prog_5_method_4_code
def yX3_recall : MethodName := ⟨RX3, "recall", "(LTicketJournal$Flash;)V"⟩
abbrev cX3_learn : ByteArray := prog_5_method_5_code
def yX3_learn : MethodName := ⟨RX3, "learn", "(II)V"⟩
def RX4 : String := "TicketJournal$Past"
def TX4 : u_T := fun k => match k with
  | 0 => ("TicketJournal$Past", "states", "[LTicketJournal$Printer;", true)
  | 1 => ("TicketJournal$Past", "oldest", "I", false)
  | _ => ("TicketJournal$Past", "size", "I", false)
def tyX4 : Nat → FieldType := fun k => match k with
  | 0 => .array (.object "TicketJournal$Printer")
  | 1 => .int
  | _ => .int
abbrev wsX40 : List Cond := u_ws RX4 TX4 3
theorem nmX4 : ∀ a, a < 3 → ∀ b, b < 3 → a ≠ b → (TX4 a).2.1 ≠ (TX4 b).2.1 := by decide +kernel
theorem tyX4_ok : ∀ k, k < 3 → parseFieldDescriptor (TX4 k).2.2.1 = some (tyX4 k) := by decide +kernel
abbrev cX4_init : ByteArray := prog_6_method_1_code
def yX4_init : MethodName := ⟨RX4, "<init>", "()V"⟩
abbrev cX4_remember : ByteArray := prog_6_method_2_code
def yX4_remember : MethodName := ⟨RX4, "remember", "(LTicketJournal$Printer;)V"⟩
abbrev cX4_restore : ByteArray := prog_6_method_3_code
def yX4_restore : MethodName := ⟨RX4, "restore", "(LTicketJournal$Printer;)V"⟩
abbrev cX4_stateAt : ByteArray := prog_6_method_4_code
def yX4_stateAt : MethodName := ⟨RX4, "stateAt", "(I)LTicketJournal$Printer;"⟩
def RX5 : String := "TicketJournal$Printer"
def TX5 : u_T := fun k => match k with
  | 0 => ("TicketJournal$Printer", "flash", "LTicketJournal$Flash;", true)
  | 1 => ("TicketJournal$Printer", "memory", "LTicketJournal$Memory;", true)
  | 2 => ("TicketJournal$Printer", "prices", "[I", true)
  | 3 => ("TicketJournal$Printer", "on", "Z", false)
  | 4 => ("TicketJournal$Printer", "time", "I", false)
  | 5 => ("TicketJournal$Printer", "there", "I", false)
  | _ => ("TicketJournal$Printer", "printed", "I", false)
def tyX5 : Nat → FieldType := fun k => match k with
  | 0 => .object "TicketJournal$Flash"
  | 1 => .object "TicketJournal$Memory"
  | 2 => .array .int
  | 3 => .boolean
  | 4 => .int
  | 5 => .int
  | _ => .int
abbrev wsX50 : List Cond := u_ws RX5 TX5 7
theorem nmX5 : ∀ a, a < 7 → ∀ b, b < 7 → a ≠ b → (TX5 a).2.1 ≠ (TX5 b).2.1 := by decide +kernel
theorem tyX5_ok : ∀ k, k < 7 → parseFieldDescriptor (TX5 k).2.2.1 = some (tyX5 k) := by decide +kernel
abbrev cX5_init : ByteArray := prog_7_method_1_code
def yX5_init : MethodName := ⟨RX5, "<init>", "()V"⟩
abbrev cX5_copyFrom : ByteArray := prog_7_method_2_code
def yX5_copyFrom : MethodName := ⟨RX5, "copyFrom", "(LTicketJournal$Printer;)V"⟩
abbrev cX5_priceOf : ByteArray := prog_7_method_3_code
def yX5_priceOf : MethodName := ⟨RX5, "priceOf", "(I)I"⟩
abbrev cX5_changePrice : ByteArray := prog_7_method_4_code
def yX5_changePrice : MethodName := ⟨RX5, "changePrice", "(II)V"⟩
abbrev cX5_refusalOf : ByteArray := prog_7_method_5_code
def yX5_refusalOf : MethodName := ⟨RX5, "refusalOf", "(I)I"⟩
abbrev cX5_issueTicket : ByteArray := prog_7_method_6_code
def yX5_issueTicket : MethodName := ⟨RX5, "issueTicket", "(I)I"⟩
abbrev cX5_endsWithTicket : ByteArray := prog_7_method_7_code
def yX5_endsWithTicket : MethodName := ⟨RX5, "endsWithTicket", "()Z"⟩
abbrev cX5_cancelLatest : ByteArray := prog_7_method_8_code
def yX5_cancelLatest : MethodName := ⟨RX5, "cancelLatest", "()I"⟩
abbrev cX5_closeDay : ByteArray := prog_7_method_9_code
def yX5_closeDay : MethodName := ⟨RX5, "closeDay", "()I"⟩
abbrev cX5_putInPaper : ByteArray := prog_7_method_10_code
def yX5_putInPaper : MethodName := ⟨RX5, "putInPaper", "(II)I"⟩
abbrev cX5_moveClock : ByteArray := prog_7_method_11_code
def yX5_moveClock : MethodName := ⟨RX5, "moveClock", "(I)I"⟩
abbrev cX5_losePower : ByteArray := prog_7_method_12_code
def yX5_losePower : MethodName := ⟨RX5, "losePower", "()V"⟩
abbrev cX5_wake : ByteArray := prog_7_method_13_code
def yX5_wake : MethodName := ⟨RX5, "wake", "()V"⟩
abbrev cX5_writeRecord : ByteArray := prog_7_method_14_code
def yX5_writeRecord : MethodName := ⟨RX5, "writeRecord", "(III)Z"⟩
abbrev cX5_beginBlock : ByteArray := prog_7_method_15_code
def yX5_beginBlock : MethodName := ⟨RX5, "beginBlock", "()Z"⟩
abbrev cX5_fillPlace : ByteArray := prog_7_method_16_code
def yX5_fillPlace : MethodName := ⟨RX5, "fillPlace", "(III)Z"⟩
def RX6 : String := "TicketJournal"
def TX6 : u_T := fun k => match k with
  | 0 => ("TicketJournal", "present", "LTicketJournal$Printer;", true)
  | 1 => ("TicketJournal", "trial", "LTicketJournal$Printer;", true)
  | 2 => ("TicketJournal", "journal", "LTicketJournal$Journal;", true)
  | 3 => ("TicketJournal", "past", "LTicketJournal$Past;", true)
  | _ => ("TicketJournal", "images", "[LTicketJournal$Image;", true)
def tyX6 : Nat → FieldType := fun k => match k with
  | 0 => .object "TicketJournal$Printer"
  | 1 => .object "TicketJournal$Printer"
  | 2 => .object "TicketJournal$Journal"
  | 3 => .object "TicketJournal$Past"
  | _ => .array (.object "TicketJournal$Image")
abbrev wsX60 : List Cond := u_ws RX6 TX6 5
theorem nmX6 : ∀ a, a < 5 → ∀ b, b < 5 → a ≠ b → (TX6 a).2.1 ≠ (TX6 b).2.1 := by decide +kernel
theorem tyX6_ok : ∀ k, k < 5 → parseFieldDescriptor (TX6 k).2.2.1 = some (tyX6 k) := by decide +kernel
abbrev cX6_init : ByteArray := prog_1_method_1_code
def yX6_init : MethodName := ⟨RX6, "<init>", "()V"⟩
abbrev cX6_sell : ByteArray := prog_1_method_2_code
def yX6_sell : MethodName := ⟨RX6, "sell", "(I)I"⟩
abbrev cX6_cancel : ByteArray := prog_1_method_3_code
def yX6_cancel : MethodName := ⟨RX6, "cancel", "()I"⟩
abbrev cX6_close : ByteArray := prog_1_method_4_code
def yX6_close : MethodName := ⟨RX6, "close", "()I"⟩
abbrev cX6_load : ByteArray := prog_1_method_5_code
def yX6_load : MethodName := ⟨RX6, "load", "(II)I"⟩
abbrev cX6_setClock : ByteArray := prog_1_method_6_code
def yX6_setClock : MethodName := ⟨RX6, "setClock", "(I)I"⟩
abbrev cX6_pass : ByteArray := prog_1_method_7_code
def yX6_pass : MethodName := ⟨RX6, "pass", "(I)I"⟩
abbrev cX6_setPrice : ByteArray := prog_1_method_8_code
def yX6_setPrice : MethodName := ⟨RX6, "setPrice", "(II)I"⟩
abbrev cX6_cut : ByteArray := prog_1_method_9_code
def yX6_cut : MethodName := ⟨RX6, "cut", "(I)I"⟩
abbrev cX6_off : ByteArray := prog_1_method_10_code
def yX6_off : MethodName := ⟨RX6, "off", "()I"⟩
abbrev cX6_start : ByteArray := prog_1_method_11_code
def yX6_start : MethodName := ⟨RX6, "start", "()I"⟩
abbrev cX6_undo : ByteArray := prog_1_method_12_code
def yX6_undo : MethodName := ⟨RX6, "undo", "()I"⟩
abbrev cX6_told : ByteArray := prog_1_method_13_code
def yX6_told : MethodName := ⟨RX6, "told", "(I)I"⟩
abbrev cX6_knownNumber : ByteArray := prog_1_method_14_code
def yX6_knownNumber : MethodName := ⟨RX6, "knownNumber", "(I)I"⟩
abbrev cX6_word : ByteArray := prog_1_method_16_code
def yX6_word : MethodName := ⟨RX6, "word", "(II)I"⟩
abbrev cX6_block : ByteArray := prog_1_method_17_code
def yX6_block : MethodName := ⟨RX6, "block", "(II)I"⟩
abbrev cX6_records : ByteArray := prog_1_method_18_code
def yX6_records : MethodName := ⟨RX6, "records", "(I)I"⟩
abbrev cX6_record : ByteArray := prog_1_method_19_code
def yX6_record : MethodName := ⟨RX6, "record", "(II)I"⟩
abbrev cX6_takings : ByteArray := prog_1_method_20_code
def yX6_takings : MethodName := ⟨RX6, "takings", "(I)I"⟩
abbrev cX6_mean : ByteArray := prog_1_method_21_code
def yX6_mean : MethodName := ⟨RX6, "mean", "()F"⟩
abbrev cX6_operations : ByteArray := prog_1_method_23_code
def yX6_operations : MethodName := ⟨RX6, "operations", "(I)I"⟩
abbrev cX6_after : ByteArray := prog_1_method_24_code
def yX6_after : MethodName := ⟨RX6, "after", "(III)I"⟩
abbrev cX6_needed : ByteArray := prog_1_method_25_code
def yX6_needed : MethodName := ⟨RX6, "needed", "(I)I"⟩
abbrev cX6_trySale : ByteArray := prog_1_method_26_code
def yX6_trySale : MethodName := ⟨RX6, "trySale", "(II)V"⟩
abbrev cX6_keep : ByteArray := prog_1_method_27_code
def yX6_keep : MethodName := ⟨RX6, "keep", "(I)I"⟩
abbrev cX6_back : ByteArray := prog_1_method_28_code
def yX6_back : MethodName := ⟨RX6, "back", "(I)I"⟩
abbrev cX6_isImage : ByteArray := prog_1_method_29_code
def yX6_isImage : MethodName := ⟨RX6, "isImage", "(I)Z"⟩
abbrev cX6_isWithin : ByteArray := prog_1_method_30_code
def yX6_isWithin : MethodName := ⟨RX6, "isWithin", "(III)Z"⟩
abbrev cX6_isSort : ByteArray := prog_1_method_31_code
def yX6_isSort : MethodName := ⟨RX6, "isSort", "(I)Z"⟩
abbrev cX6_isBlock : ByteArray := prog_1_method_32_code
def yX6_isBlock : MethodName := ⟨RX6, "isBlock", "(I)Z"⟩
abbrev cX6_lengthOf : ByteArray := prog_1_method_33_code
def yX6_lengthOf : MethodName := ⟨RX6, "lengthOf", "(I)I"⟩
abbrev cX6_headerCheck : ByteArray := prog_1_method_34_code
def yX6_headerCheck : MethodName := ⟨RX6, "headerCheck", "(IIIII)I"⟩
abbrev cX6_recordCheck : ByteArray := prog_1_method_35_code
def yX6_recordCheck : MethodName := ⟨RX6, "recordCheck", "(IIII)I"⟩
def RX7 : String := "TicketJournalModel"
def TX7 : u_T := fun k => match k with
  | _ => ("", "", "", false)
def tyX7 : Nat → FieldType := fun k => match k with
  | _ => .int
abbrev wsX70 : List Cond := u_ws RX7 TX7 0
theorem nmX7 : ∀ a, a < 0 → ∀ b, b < 0 → a ≠ b → (TX7 a).2.1 ≠ (TX7 b).2.1 := by decide +kernel
theorem tyX7_ok : ∀ k, k < 0 → parseFieldDescriptor (TX7 k).2.2.1 = some (tyX7 k) := by decide +kernel
def RL : String := "TicketJournalLaw"
abbrev cL_cell : ByteArray := method_2_code
def yL_cell : MethodName := ⟨RL, "cell", "([II)I"⟩
abbrev cL_low : ByteArray := method_3_code
def yL_low : MethodName := ⟨RL, "low", "(II)I"⟩
abbrev cL_change : ByteArray := method_4_code
def yL_change : MethodName := ⟨RL, "change", "(LTicketJournal;II)I"⟩
abbrev cL_isJournal : ByteArray := method_5_code
def yL_isJournal : MethodName := ⟨RL, "isJournal", "(LTicketJournal;)Z"⟩
abbrev cL_isKnown : ByteArray := method_6_code
def yL_isKnown : MethodName := ⟨RL, "isKnown", "(LTicketJournal;)Z"⟩
abbrev cL_isCut : ByteArray := method_7_code
def yL_isCut : MethodName := ⟨RL, "isCut", "(LTicketJournal;II)Z"⟩
abbrev cL_areAlike : ByteArray := method_8_code
def yL_areAlike : MethodName := ⟨RL, "areAlike", "(LTicketJournal;LTicketJournal;)Z"⟩
abbrev cL_law : ByteArray := code
def yL_law : MethodName := ⟨RL, "law", "([I)Z"⟩
abbrev vwCl : List vw_C := [(RX0, TX0, 4), (RX1, TX1, 2), (RX2, TX2, 2), (RX3, TX3, 6), (RX4, TX4, 3), (RX5, TX5, 7), (RX6, TX6, 5)]
theorem inX0 : ∀ w ∈ wsX00, w ∈ lw_tbl := by
  show ∀ w ∈ [u_lay RX0 TX0 0, u_lay RX0 TX0 1, u_lay RX0 TX0 2, u_lay RX0 TX0 3], w ∈ lw_tbl
  exact List.forall_mem_cons.mpr ⟨List.mem_of_getElem? (i := 49) (by decide +kernel), List.forall_mem_cons.mpr ⟨List.mem_of_getElem? (i := 51) (by decide +kernel), List.forall_mem_cons.mpr ⟨List.mem_of_getElem? (i := 53) (by decide +kernel), List.forall_mem_cons.mpr ⟨List.mem_of_getElem? (i := 55) (by decide +kernel), fun _ h => absurd h List.not_mem_nil⟩⟩⟩⟩
theorem inX1 : ∀ w ∈ wsX10, w ∈ lw_tbl := by
  show ∀ w ∈ [u_lay RX1 TX1 0, u_lay RX1 TX1 1], w ∈ lw_tbl
  exact List.forall_mem_cons.mpr ⟨List.mem_of_getElem? (i := 170) (by decide +kernel), List.forall_mem_cons.mpr ⟨List.mem_of_getElem? (i := 172) (by decide +kernel), fun _ h => absurd h List.not_mem_nil⟩⟩
theorem inX2 : ∀ w ∈ wsX20, w ∈ lw_tbl := by
  show ∀ w ∈ [u_lay RX2 TX2 0, u_lay RX2 TX2 1], w ∈ lw_tbl
  exact List.forall_mem_cons.mpr ⟨List.mem_of_getElem? (i := 132) (by decide +kernel), List.forall_mem_cons.mpr ⟨List.mem_of_getElem? (i := 134) (by decide +kernel), fun _ h => absurd h List.not_mem_nil⟩⟩
theorem inX3 : ∀ w ∈ wsX30, w ∈ lw_tbl := by
  show ∀ w ∈ [u_lay RX3 TX3 0, u_lay RX3 TX3 1, u_lay RX3 TX3 2, u_lay RX3 TX3 3, u_lay RX3 TX3 4, u_lay RX3 TX3 5], w ∈ lw_tbl
  exact List.forall_mem_cons.mpr ⟨List.mem_of_getElem? (i := 83) (by decide +kernel), List.forall_mem_cons.mpr ⟨List.mem_of_getElem? (i := 85) (by decide +kernel), List.forall_mem_cons.mpr ⟨List.mem_of_getElem? (i := 87) (by decide +kernel), List.forall_mem_cons.mpr ⟨List.mem_of_getElem? (i := 89) (by decide +kernel), List.forall_mem_cons.mpr ⟨List.mem_of_getElem? (i := 91) (by decide +kernel), List.forall_mem_cons.mpr ⟨List.mem_of_getElem? (i := 93) (by decide +kernel), fun _ h => absurd h List.not_mem_nil⟩⟩⟩⟩⟩⟩
theorem inX4 : ∀ w ∈ wsX40, w ∈ lw_tbl := by
  show ∀ w ∈ [u_lay RX4 TX4 0, u_lay RX4 TX4 1, u_lay RX4 TX4 2], w ∈ lw_tbl
  exact List.forall_mem_cons.mpr ⟨List.mem_of_getElem? (i := 150) (by decide +kernel), List.forall_mem_cons.mpr ⟨List.mem_of_getElem? (i := 152) (by decide +kernel), List.forall_mem_cons.mpr ⟨List.mem_of_getElem? (i := 154) (by decide +kernel), fun _ h => absurd h List.not_mem_nil⟩⟩⟩
theorem inX5 : ∀ w ∈ wsX50, w ∈ lw_tbl := by
  show ∀ w ∈ [u_lay RX5 TX5 0, u_lay RX5 TX5 1, u_lay RX5 TX5 2, u_lay RX5 TX5 3, u_lay RX5 TX5 4, u_lay RX5 TX5 5, u_lay RX5 TX5 6], w ∈ lw_tbl
  exact List.forall_mem_cons.mpr ⟨List.mem_of_getElem? (i := 109) (by decide +kernel), List.forall_mem_cons.mpr ⟨List.mem_of_getElem? (i := 111) (by decide +kernel), List.forall_mem_cons.mpr ⟨List.mem_of_getElem? (i := 113) (by decide +kernel), List.forall_mem_cons.mpr ⟨List.mem_of_getElem? (i := 115) (by decide +kernel), List.forall_mem_cons.mpr ⟨List.mem_of_getElem? (i := 117) (by decide +kernel), List.forall_mem_cons.mpr ⟨List.mem_of_getElem? (i := 119) (by decide +kernel), List.forall_mem_cons.mpr ⟨List.mem_of_getElem? (i := 121) (by decide +kernel), fun _ h => absurd h List.not_mem_nil⟩⟩⟩⟩⟩⟩⟩
theorem inX6 : ∀ w ∈ wsX60, w ∈ lw_tbl := by
  show ∀ w ∈ [u_lay RX6 TX6 0, u_lay RX6 TX6 1, u_lay RX6 TX6 2, u_lay RX6 TX6 3, u_lay RX6 TX6 4], w ∈ lw_tbl
  exact List.forall_mem_cons.mpr ⟨List.mem_of_getElem? (i := 180) (by decide +kernel), List.forall_mem_cons.mpr ⟨List.mem_of_getElem? (i := 182) (by decide +kernel), List.forall_mem_cons.mpr ⟨List.mem_of_getElem? (i := 184) (by decide +kernel), List.forall_mem_cons.mpr ⟨List.mem_of_getElem? (i := 186) (by decide +kernel), List.forall_mem_cons.mpr ⟨List.mem_of_getElem? (i := 188) (by decide +kernel), fun _ h => absurd h List.not_mem_nil⟩⟩⟩⟩⟩
theorem dX0_init_0 : decode cX0_init 0 = .ok (.aload_n 0, 1) := by decide +kernel
theorem dX0_init_1 : decode cX0_init 1 = .ok (.invokespecial 3, 3) := by decide +kernel
theorem dX0_init_4 : decode cX0_init 4 = .ok (.aload_n 0, 1) := by decide +kernel
theorem dX0_init_5 : decode cX0_init 5 = .ok (.bipush 110, 2) := by decide +kernel
theorem dX0_init_7 : decode cX0_init 7 = .ok (.newarray .int, 2) := by decide +kernel
theorem dX0_init_9 : decode cX0_init 9 = .ok (.putfield 9, 3) := by decide +kernel
theorem dX0_init_12 : decode cX0_init 12 = .ok (.aload_n 0, 1) := by decide +kernel
theorem dX0_init_13 : decode cX0_init 13 = .ok (.iconst 5, 1) := by decide +kernel
theorem dX0_init_14 : decode cX0_init 14 = .ok (.newarray .int, 2) := by decide +kernel
theorem dX0_init_16 : decode cX0_init 16 = .ok (.putfield 15, 3) := by decide +kernel
theorem dX0_init_19 : decode cX0_init 19 = .ok (.aload_n 0, 1) := by decide +kernel
theorem dX0_init_20 : decode cX0_init 20 = .ok (.iconst 0, 1) := by decide +kernel
theorem dX0_init_21 : decode cX0_init 21 = .ok (.putfield 18, 3) := by decide +kernel
theorem dX0_init_24 : decode cX0_init 24 = .ok (.aload_n 0, 1) := by decide +kernel
theorem dX0_init_25 : decode cX0_init 25 = .ok (.bipush (-9), 2) := by decide +kernel
theorem dX0_init_27 : decode cX0_init 27 = .ok (.putfield 22, 3) := by decide +kernel
theorem dX0_init_30 : decode cX0_init 30 = .ok (.iconst 0, 1) := by decide +kernel
theorem dX0_init_31 : decode cX0_init 31 = .ok (.istore_n 1, 1) := by decide +kernel
theorem dX0_init_32 : decode cX0_init 32 = .ok (.iload_n 1, 1) := by decide +kernel
theorem dX0_init_33 : decode cX0_init 33 = .ok (.aload_n 0, 1) := by decide +kernel
theorem dX0_init_34 : decode cX0_init 34 = .ok (.getfield 9, 3) := by decide +kernel
theorem dX0_init_37 : decode cX0_init 37 = .ok (.arraylength, 1) := by decide +kernel
theorem dX0_init_38 : decode cX0_init 38 = .ok (.if_icmp .ge 26, 3) := by decide +kernel
theorem dX0_init_41 : decode cX0_init 41 = .ok (.aload_n 0, 1) := by decide +kernel
theorem dX0_init_42 : decode cX0_init 42 = .ok (.getfield 9, 3) := by decide +kernel
theorem dX0_init_45 : decode cX0_init 45 = .ok (.iload_n 1, 1) := by decide +kernel
theorem dX0_init_46 : decode cX0_init 46 = .ok (.iload_n 1, 1) := by decide +kernel
theorem dX0_init_47 : decode cX0_init 47 = .ok (.iconst 5, 1) := by decide +kernel
theorem dX0_init_48 : decode cX0_init 48 = .ok (.if_icmp .ge 7, 3) := by decide +kernel
theorem dX0_init_51 : decode cX0_init 51 = .ok (.iconst 0, 1) := by decide +kernel
theorem dX0_init_52 : decode cX0_init 52 = .ok (.goto 5, 3) := by decide +kernel
theorem dX0_init_55 : decode cX0_init 55 = .ok (.ldc 25, 2) := by decide +kernel
theorem dX0_init_57 : decode cX0_init 57 = .ok (.iastore, 1) := by decide +kernel
theorem dX0_init_58 : decode cX0_init 58 = .ok (.iinc 1 1, 3) := by decide +kernel
theorem dX0_init_61 : decode cX0_init 61 = .ok (.goto (-29), 3) := by decide +kernel
theorem dX0_init_64 : decode cX0_init 64 = .ok (.aload_n 0, 1) := by decide +kernel
theorem dX0_init_65 : decode cX0_init 65 = .ok (.getfield 9, 3) := by decide +kernel
theorem dX0_init_68 : decode cX0_init 68 = .ok (.iconst 5, 1) := by decide +kernel
theorem dX0_init_69 : decode cX0_init 69 = .ok (.iconst 1, 1) := by decide +kernel
theorem dX0_init_70 : decode cX0_init 70 = .ok (.iastore, 1) := by decide +kernel
theorem dX0_init_71 : decode cX0_init 71 = .ok (.return_, 1) := by decide +kernel
theorem dX0_copyFrom_0 : decode cX0_copyFrom 0 = .ok (.aload_n 1, 1) := by decide +kernel
theorem dX0_copyFrom_1 : decode cX0_copyFrom 1 = .ok (.getfield 9, 3) := by decide +kernel
theorem dX0_copyFrom_4 : decode cX0_copyFrom 4 = .ok (.iconst 0, 1) := by decide +kernel
theorem dX0_copyFrom_5 : decode cX0_copyFrom 5 = .ok (.aload_n 0, 1) := by decide +kernel
theorem dX0_copyFrom_6 : decode cX0_copyFrom 6 = .ok (.getfield 9, 3) := by decide +kernel
theorem dX0_copyFrom_9 : decode cX0_copyFrom 9 = .ok (.iconst 0, 1) := by decide +kernel
theorem dX0_copyFrom_10 : decode cX0_copyFrom 10 = .ok (.bipush 110, 2) := by decide +kernel
theorem dX0_copyFrom_12 : decode cX0_copyFrom 12 = .ok (.invokestatic 26, 3) := by decide +kernel
theorem dX0_copyFrom_15 : decode cX0_copyFrom 15 = .ok (.aload_n 1, 1) := by decide +kernel
theorem dX0_copyFrom_16 : decode cX0_copyFrom 16 = .ok (.getfield 15, 3) := by decide +kernel
theorem dX0_copyFrom_19 : decode cX0_copyFrom 19 = .ok (.iconst 0, 1) := by decide +kernel
theorem dX0_copyFrom_20 : decode cX0_copyFrom 20 = .ok (.aload_n 0, 1) := by decide +kernel
theorem dX0_copyFrom_21 : decode cX0_copyFrom 21 = .ok (.getfield 15, 3) := by decide +kernel
theorem dX0_copyFrom_24 : decode cX0_copyFrom 24 = .ok (.iconst 0, 1) := by decide +kernel
theorem dX0_copyFrom_25 : decode cX0_copyFrom 25 = .ok (.iconst 5, 1) := by decide +kernel
theorem dX0_copyFrom_26 : decode cX0_copyFrom 26 = .ok (.invokestatic 26, 3) := by decide +kernel
theorem dX0_copyFrom_29 : decode cX0_copyFrom 29 = .ok (.aload_n 0, 1) := by decide +kernel
theorem dX0_copyFrom_30 : decode cX0_copyFrom 30 = .ok (.aload_n 1, 1) := by decide +kernel
theorem dX0_copyFrom_31 : decode cX0_copyFrom 31 = .ok (.getfield 18, 3) := by decide +kernel
theorem dX0_copyFrom_34 : decode cX0_copyFrom 34 = .ok (.putfield 18, 3) := by decide +kernel
theorem dX0_copyFrom_37 : decode cX0_copyFrom 37 = .ok (.aload_n 0, 1) := by decide +kernel
theorem dX0_copyFrom_38 : decode cX0_copyFrom 38 = .ok (.aload_n 1, 1) := by decide +kernel
theorem dX0_copyFrom_39 : decode cX0_copyFrom 39 = .ok (.getfield 22, 3) := by decide +kernel
theorem dX0_copyFrom_42 : decode cX0_copyFrom 42 = .ok (.putfield 22, 3) := by decide +kernel
theorem dX0_copyFrom_45 : decode cX0_copyFrom 45 = .ok (.return_, 1) := by decide +kernel
theorem dX0_read_0 : decode cX0_read 0 = .ok (.iload_n 1, 1) := by decide +kernel
theorem dX0_read_1 : decode cX0_read 1 = .ok (.bipush 22, 2) := by decide +kernel
theorem dX0_read_3 : decode cX0_read 3 = .ok (.imul, 1) := by decide +kernel
theorem dX0_read_4 : decode cX0_read 4 = .ok (.iload_n 2, 1) := by decide +kernel
theorem dX0_read_5 : decode cX0_read 5 = .ok (.iadd, 1) := by decide +kernel
theorem dX0_read_6 : decode cX0_read 6 = .ok (.istore_n 3, 1) := by decide +kernel
theorem dX0_read_7 : decode cX0_read 7 = .ok (.iload_n 3, 1) := by decide +kernel
theorem dX0_read_8 : decode cX0_read 8 = .ok (.ifCond .lt 21, 3) := by decide +kernel
theorem dX0_read_11 : decode cX0_read 11 = .ok (.iload_n 3, 1) := by decide +kernel
theorem dX0_read_12 : decode cX0_read 12 = .ok (.aload_n 0, 1) := by decide +kernel
theorem dX0_read_13 : decode cX0_read 13 = .ok (.getfield 9, 3) := by decide +kernel
theorem dX0_read_16 : decode cX0_read 16 = .ok (.arraylength, 1) := by decide +kernel
theorem dX0_read_17 : decode cX0_read 17 = .ok (.if_icmp .ge 12, 3) := by decide +kernel
theorem dX0_read_20 : decode cX0_read 20 = .ok (.aload_n 0, 1) := by decide +kernel
theorem dX0_read_21 : decode cX0_read 21 = .ok (.getfield 9, 3) := by decide +kernel
theorem dX0_read_24 : decode cX0_read 24 = .ok (.iload_n 3, 1) := by decide +kernel
theorem dX0_read_25 : decode cX0_read 25 = .ok (.iaload, 1) := by decide +kernel
theorem dX0_read_26 : decode cX0_read 26 = .ok (.goto 5, 3) := by decide +kernel
theorem dX0_read_29 : decode cX0_read 29 = .ok (.ldc 25, 2) := by decide +kernel
theorem dX0_read_31 : decode cX0_read 31 = .ok (.ireturn, 1) := by decide +kernel
theorem dX0_write_0 : decode cX0_write 0 = .ok (.iload_n 1, 1) := by decide +kernel
theorem dX0_write_1 : decode cX0_write 1 = .ok (.bipush 22, 2) := by decide +kernel
theorem dX0_write_3 : decode cX0_write 3 = .ok (.imul, 1) := by decide +kernel
theorem dX0_write_4 : decode cX0_write 4 = .ok (.iload_n 2, 1) := by decide +kernel
theorem dX0_write_5 : decode cX0_write 5 = .ok (.iadd, 1) := by decide +kernel
theorem dX0_write_6 : decode cX0_write 6 = .ok (.istore 4, 2) := by decide +kernel
theorem dX0_write_8 : decode cX0_write 8 = .ok (.iload 4, 2) := by decide +kernel
theorem dX0_write_10 : decode cX0_write 10 = .ok (.ifCond .lt 20, 3) := by decide +kernel
theorem dX0_write_13 : decode cX0_write 13 = .ok (.iload 4, 2) := by decide +kernel
theorem dX0_write_15 : decode cX0_write 15 = .ok (.aload_n 0, 1) := by decide +kernel
theorem dX0_write_16 : decode cX0_write 16 = .ok (.getfield 9, 3) := by decide +kernel
theorem dX0_write_19 : decode cX0_write 19 = .ok (.arraylength, 1) := by decide +kernel
theorem dX0_write_20 : decode cX0_write 20 = .ok (.if_icmp .ge 10, 3) := by decide +kernel
theorem dX0_write_23 : decode cX0_write 23 = .ok (.aload_n 0, 1) := by decide +kernel
theorem dX0_write_24 : decode cX0_write 24 = .ok (.invokevirtual 32, 3) := by decide +kernel
theorem dX0_write_27 : decode cX0_write 27 = .ok (.ifCond .ne 5, 3) := by decide +kernel
theorem dX0_write_30 : decode cX0_write 30 = .ok (.iconst 0, 1) := by decide +kernel
theorem dX0_write_31 : decode cX0_write 31 = .ok (.ireturn, 1) := by decide +kernel
theorem dX0_write_32 : decode cX0_write 32 = .ok (.aload_n 0, 1) := by decide +kernel
theorem dX0_write_33 : decode cX0_write 33 = .ok (.getfield 9, 3) := by decide +kernel
theorem dX0_write_36 : decode cX0_write 36 = .ok (.iload 4, 2) := by decide +kernel
theorem dX0_write_38 : decode cX0_write 38 = .ok (.iload_n 3, 1) := by decide +kernel
theorem dX0_write_39 : decode cX0_write 39 = .ok (.iastore, 1) := by decide +kernel
theorem dX0_write_40 : decode cX0_write 40 = .ok (.iconst 1, 1) := by decide +kernel
theorem dX0_write_41 : decode cX0_write 41 = .ok (.ireturn, 1) := by decide +kernel
theorem dX0_erase_0 : decode cX0_erase 0 = .ok (.iload_n 1, 1) := by decide +kernel
theorem dX0_erase_1 : decode cX0_erase 1 = .ok (.ifCond .lt 19, 3) := by decide +kernel
theorem dX0_erase_4 : decode cX0_erase 4 = .ok (.iload_n 1, 1) := by decide +kernel
theorem dX0_erase_5 : decode cX0_erase 5 = .ok (.aload_n 0, 1) := by decide +kernel
theorem dX0_erase_6 : decode cX0_erase 6 = .ok (.getfield 15, 3) := by decide +kernel
theorem dX0_erase_9 : decode cX0_erase 9 = .ok (.arraylength, 1) := by decide +kernel
theorem dX0_erase_10 : decode cX0_erase 10 = .ok (.if_icmp .ge 10, 3) := by decide +kernel
theorem dX0_erase_13 : decode cX0_erase 13 = .ok (.aload_n 0, 1) := by decide +kernel
theorem dX0_erase_14 : decode cX0_erase 14 = .ok (.invokevirtual 32, 3) := by decide +kernel
theorem dX0_erase_17 : decode cX0_erase 17 = .ok (.ifCond .ne 5, 3) := by decide +kernel
theorem dX0_erase_20 : decode cX0_erase 20 = .ok (.iconst 0, 1) := by decide +kernel
theorem dX0_erase_21 : decode cX0_erase 21 = .ok (.ireturn, 1) := by decide +kernel
theorem dX0_erase_22 : decode cX0_erase 22 = .ok (.iload_n 1, 1) := by decide +kernel
theorem dX0_erase_23 : decode cX0_erase 23 = .ok (.bipush 22, 2) := by decide +kernel
theorem dX0_erase_25 : decode cX0_erase 25 = .ok (.imul, 1) := by decide +kernel
theorem dX0_erase_26 : decode cX0_erase 26 = .ok (.istore_n 2, 1) := by decide +kernel
theorem dX0_erase_27 : decode cX0_erase 27 = .ok (.iload_n 2, 1) := by decide +kernel
theorem dX0_erase_28 : decode cX0_erase 28 = .ok (.iload_n 1, 1) := by decide +kernel
theorem dX0_erase_29 : decode cX0_erase 29 = .ok (.iconst 1, 1) := by decide +kernel
theorem dX0_erase_30 : decode cX0_erase 30 = .ok (.iadd, 1) := by decide +kernel
theorem dX0_erase_31 : decode cX0_erase 31 = .ok (.bipush 22, 2) := by decide +kernel
theorem dX0_erase_33 : decode cX0_erase 33 = .ok (.imul, 1) := by decide +kernel
theorem dX0_erase_34 : decode cX0_erase 34 = .ok (.if_icmp .ge 26, 3) := by decide +kernel
theorem dX0_erase_37 : decode cX0_erase 37 = .ok (.iload_n 2, 1) := by decide +kernel
theorem dX0_erase_38 : decode cX0_erase 38 = .ok (.aload_n 0, 1) := by decide +kernel
theorem dX0_erase_39 : decode cX0_erase 39 = .ok (.getfield 9, 3) := by decide +kernel
theorem dX0_erase_42 : decode cX0_erase 42 = .ok (.arraylength, 1) := by decide +kernel
theorem dX0_erase_43 : decode cX0_erase 43 = .ok (.if_icmp .ge 17, 3) := by decide +kernel
theorem dX0_erase_46 : decode cX0_erase 46 = .ok (.aload_n 0, 1) := by decide +kernel
theorem dX0_erase_47 : decode cX0_erase 47 = .ok (.getfield 9, 3) := by decide +kernel
theorem dX0_erase_50 : decode cX0_erase 50 = .ok (.iload_n 2, 1) := by decide +kernel
theorem dX0_erase_51 : decode cX0_erase 51 = .ok (.ldc 25, 2) := by decide +kernel
theorem dX0_erase_53 : decode cX0_erase 53 = .ok (.iastore, 1) := by decide +kernel
theorem dX0_erase_54 : decode cX0_erase 54 = .ok (.iinc 2 1, 3) := by decide +kernel
theorem dX0_erase_57 : decode cX0_erase 57 = .ok (.goto (-30), 3) := by decide +kernel
theorem dX0_erase_60 : decode cX0_erase 60 = .ok (.aload_n 0, 1) := by decide +kernel
theorem dX0_erase_61 : decode cX0_erase 61 = .ok (.getfield 15, 3) := by decide +kernel
theorem dX0_erase_64 : decode cX0_erase 64 = .ok (.iload_n 1, 1) := by decide +kernel
theorem dX0_erase_65 : decode cX0_erase 65 = .ok (.dup2, 1) := by decide +kernel
theorem dX0_erase_66 : decode cX0_erase 66 = .ok (.iaload, 1) := by decide +kernel
theorem dX0_erase_67 : decode cX0_erase 67 = .ok (.iconst 1, 1) := by decide +kernel
theorem dX0_erase_68 : decode cX0_erase 68 = .ok (.iadd, 1) := by decide +kernel
theorem dX0_erase_69 : decode cX0_erase 69 = .ok (.iastore, 1) := by decide +kernel
theorem dX0_erase_70 : decode cX0_erase 70 = .ok (.iconst 1, 1) := by decide +kernel
theorem dX0_erase_71 : decode cX0_erase 71 = .ok (.ireturn, 1) := by decide +kernel
theorem dX0_spendOperation_0 : decode cX0_spendOperation 0 = .ok (.aload_n 0, 1) := by decide +kernel
theorem dX0_spendOperation_1 : decode cX0_spendOperation 1 = .ok (.getfield 22, 3) := by decide +kernel
theorem dX0_spendOperation_4 : decode cX0_spendOperation 4 = .ok (.ifCond .ne 11, 3) := by decide +kernel
theorem dX0_spendOperation_7 : decode cX0_spendOperation 7 = .ok (.aload_n 0, 1) := by decide +kernel
theorem dX0_spendOperation_8 : decode cX0_spendOperation 8 = .ok (.bipush (-9), 2) := by decide +kernel
theorem dX0_spendOperation_10 : decode cX0_spendOperation 10 = .ok (.putfield 22, 3) := by decide +kernel
theorem dX0_spendOperation_13 : decode cX0_spendOperation 13 = .ok (.iconst 0, 1) := by decide +kernel
theorem dX0_spendOperation_14 : decode cX0_spendOperation 14 = .ok (.ireturn, 1) := by decide +kernel
theorem dX0_spendOperation_15 : decode cX0_spendOperation 15 = .ok (.aload_n 0, 1) := by decide +kernel
theorem dX0_spendOperation_16 : decode cX0_spendOperation 16 = .ok (.getfield 22, 3) := by decide +kernel
theorem dX0_spendOperation_19 : decode cX0_spendOperation 19 = .ok (.bipush (-9), 2) := by decide +kernel
theorem dX0_spendOperation_21 : decode cX0_spendOperation 21 = .ok (.if_icmp .eq 13, 3) := by decide +kernel
theorem dX0_spendOperation_24 : decode cX0_spendOperation 24 = .ok (.aload_n 0, 1) := by decide +kernel
theorem dX0_spendOperation_25 : decode cX0_spendOperation 25 = .ok (.dup, 1) := by decide +kernel
theorem dX0_spendOperation_26 : decode cX0_spendOperation 26 = .ok (.getfield 22, 3) := by decide +kernel
theorem dX0_spendOperation_29 : decode cX0_spendOperation 29 = .ok (.iconst 1, 1) := by decide +kernel
theorem dX0_spendOperation_30 : decode cX0_spendOperation 30 = .ok (.isub, 1) := by decide +kernel
theorem dX0_spendOperation_31 : decode cX0_spendOperation 31 = .ok (.putfield 22, 3) := by decide +kernel
theorem dX0_spendOperation_34 : decode cX0_spendOperation 34 = .ok (.aload_n 0, 1) := by decide +kernel
theorem dX0_spendOperation_35 : decode cX0_spendOperation 35 = .ok (.dup, 1) := by decide +kernel
theorem dX0_spendOperation_36 : decode cX0_spendOperation 36 = .ok (.getfield 18, 3) := by decide +kernel
theorem dX0_spendOperation_39 : decode cX0_spendOperation 39 = .ok (.iconst 1, 1) := by decide +kernel
theorem dX0_spendOperation_40 : decode cX0_spendOperation 40 = .ok (.iadd, 1) := by decide +kernel
theorem dX0_spendOperation_41 : decode cX0_spendOperation 41 = .ok (.putfield 18, 3) := by decide +kernel
theorem dX0_spendOperation_44 : decode cX0_spendOperation 44 = .ok (.iconst 1, 1) := by decide +kernel
theorem dX0_spendOperation_45 : decode cX0_spendOperation 45 = .ok (.ireturn, 1) := by decide +kernel
theorem dX0_erasuresOf_0 : decode cX0_erasuresOf 0 = .ok (.iload_n 1, 1) := by decide +kernel
theorem dX0_erasuresOf_1 : decode cX0_erasuresOf 1 = .ok (.ifCond .lt 21, 3) := by decide +kernel
theorem dX0_erasuresOf_4 : decode cX0_erasuresOf 4 = .ok (.iload_n 1, 1) := by decide +kernel
theorem dX0_erasuresOf_5 : decode cX0_erasuresOf 5 = .ok (.aload_n 0, 1) := by decide +kernel
theorem dX0_erasuresOf_6 : decode cX0_erasuresOf 6 = .ok (.getfield 15, 3) := by decide +kernel
theorem dX0_erasuresOf_9 : decode cX0_erasuresOf 9 = .ok (.arraylength, 1) := by decide +kernel
theorem dX0_erasuresOf_10 : decode cX0_erasuresOf 10 = .ok (.if_icmp .ge 12, 3) := by decide +kernel
theorem dX0_erasuresOf_13 : decode cX0_erasuresOf 13 = .ok (.aload_n 0, 1) := by decide +kernel
theorem dX0_erasuresOf_14 : decode cX0_erasuresOf 14 = .ok (.getfield 15, 3) := by decide +kernel
theorem dX0_erasuresOf_17 : decode cX0_erasuresOf 17 = .ok (.iload_n 1, 1) := by decide +kernel
theorem dX0_erasuresOf_18 : decode cX0_erasuresOf 18 = .ok (.iaload, 1) := by decide +kernel
theorem dX0_erasuresOf_19 : decode cX0_erasuresOf 19 = .ok (.goto 4, 3) := by decide +kernel
theorem dX0_erasuresOf_22 : decode cX0_erasuresOf 22 = .ok (.iconst 0, 1) := by decide +kernel
theorem dX0_erasuresOf_23 : decode cX0_erasuresOf 23 = .ok (.ireturn, 1) := by decide +kernel
theorem dX0_recordWord_0 : decode cX0_recordWord 0 = .ok (.aload_n 0, 1) := by decide +kernel
theorem dX0_recordWord_1 : decode cX0_recordWord 1 = .ok (.iload_n 1, 1) := by decide +kernel
theorem dX0_recordWord_2 : decode cX0_recordWord 2 = .ok (.bipush 6, 2) := by decide +kernel
theorem dX0_recordWord_4 : decode cX0_recordWord 4 = .ok (.iload_n 2, 1) := by decide +kernel
theorem dX0_recordWord_5 : decode cX0_recordWord 5 = .ok (.iconst 4, 1) := by decide +kernel
theorem dX0_recordWord_6 : decode cX0_recordWord 6 = .ok (.imul, 1) := by decide +kernel
theorem dX0_recordWord_7 : decode cX0_recordWord 7 = .ok (.iadd, 1) := by decide +kernel
theorem dX0_recordWord_8 : decode cX0_recordWord 8 = .ok (.iload_n 3, 1) := by decide +kernel
theorem dX0_recordWord_9 : decode cX0_recordWord 9 = .ok (.iadd, 1) := by decide +kernel
theorem dX0_recordWord_10 : decode cX0_recordWord 10 = .ok (.invokevirtual 36, 3) := by decide +kernel
theorem dX0_recordWord_13 : decode cX0_recordWord 13 = .ok (.ireturn, 1) := by decide +kernel
theorem dX0_isWhole_0 : decode cX0_isWhole 0 = .ok (.iconst 0, 1) := by decide +kernel
theorem dX0_isWhole_1 : decode cX0_isWhole 1 = .ok (.istore_n 2, 1) := by decide +kernel
theorem dX0_isWhole_2 : decode cX0_isWhole 2 = .ok (.iload_n 2, 1) := by decide +kernel
theorem dX0_isWhole_3 : decode cX0_isWhole 3 = .ok (.iconst 5, 1) := by decide +kernel
theorem dX0_isWhole_4 : decode cX0_isWhole 4 = .ok (.if_icmp .ge 22, 3) := by decide +kernel
theorem dX0_isWhole_7 : decode cX0_isWhole 7 = .ok (.aload_n 0, 1) := by decide +kernel
theorem dX0_isWhole_8 : decode cX0_isWhole 8 = .ok (.iload_n 1, 1) := by decide +kernel
theorem dX0_isWhole_9 : decode cX0_isWhole 9 = .ok (.iload_n 2, 1) := by decide +kernel
theorem dX0_isWhole_10 : decode cX0_isWhole 10 = .ok (.invokevirtual 36, 3) := by decide +kernel
theorem dX0_isWhole_13 : decode cX0_isWhole 13 = .ok (.ldc 25, 2) := by decide +kernel
theorem dX0_isWhole_15 : decode cX0_isWhole 15 = .ok (.if_icmp .ne 5, 3) := by decide +kernel
theorem dX0_isWhole_18 : decode cX0_isWhole 18 = .ok (.iconst 0, 1) := by decide +kernel
theorem dX0_isWhole_19 : decode cX0_isWhole 19 = .ok (.ireturn, 1) := by decide +kernel
theorem dX0_isWhole_20 : decode cX0_isWhole 20 = .ok (.iinc 2 1, 3) := by decide +kernel
theorem dX0_isWhole_23 : decode cX0_isWhole 23 = .ok (.goto (-21), 3) := by decide +kernel
theorem dX0_isWhole_26 : decode cX0_isWhole 26 = .ok (.aload_n 0, 1) := by decide +kernel
theorem dX0_isWhole_27 : decode cX0_isWhole 27 = .ok (.iload_n 1, 1) := by decide +kernel
theorem dX0_isWhole_28 : decode cX0_isWhole 28 = .ok (.iconst 0, 1) := by decide +kernel
theorem dX0_isWhole_29 : decode cX0_isWhole 29 = .ok (.invokevirtual 36, 3) := by decide +kernel
theorem dX0_isWhole_32 : decode cX0_isWhole 32 = .ok (.aload_n 0, 1) := by decide +kernel
theorem dX0_isWhole_33 : decode cX0_isWhole 33 = .ok (.iload_n 1, 1) := by decide +kernel
theorem dX0_isWhole_34 : decode cX0_isWhole 34 = .ok (.iconst 1, 1) := by decide +kernel
theorem dX0_isWhole_35 : decode cX0_isWhole 35 = .ok (.invokevirtual 36, 3) := by decide +kernel
theorem dX0_isWhole_38 : decode cX0_isWhole 38 = .ok (.aload_n 0, 1) := by decide +kernel
theorem dX0_isWhole_39 : decode cX0_isWhole 39 = .ok (.iload_n 1, 1) := by decide +kernel
theorem dX0_isWhole_40 : decode cX0_isWhole 40 = .ok (.iconst 2, 1) := by decide +kernel
theorem dX0_isWhole_41 : decode cX0_isWhole 41 = .ok (.invokevirtual 36, 3) := by decide +kernel
theorem dX0_isWhole_44 : decode cX0_isWhole 44 = .ok (.aload_n 0, 1) := by decide +kernel
theorem dX0_isWhole_45 : decode cX0_isWhole 45 = .ok (.iload_n 1, 1) := by decide +kernel
theorem dX0_isWhole_46 : decode cX0_isWhole 46 = .ok (.iconst 3, 1) := by decide +kernel
theorem dX0_isWhole_47 : decode cX0_isWhole 47 = .ok (.invokevirtual 36, 3) := by decide +kernel
theorem dX0_isWhole_50 : decode cX0_isWhole 50 = .ok (.aload_n 0, 1) := by decide +kernel
theorem dX0_isWhole_51 : decode cX0_isWhole 51 = .ok (.iload_n 1, 1) := by decide +kernel
theorem dX0_isWhole_52 : decode cX0_isWhole 52 = .ok (.iconst 4, 1) := by decide +kernel
theorem dX0_isWhole_53 : decode cX0_isWhole 53 = .ok (.invokevirtual 36, 3) := by decide +kernel
theorem dX0_isWhole_56 : decode cX0_isWhole 56 = .ok (.invokestatic 40, 3) := by decide +kernel
theorem dX0_isWhole_59 : decode cX0_isWhole 59 = .ok (.istore_n 2, 1) := by decide +kernel
theorem dX0_isWhole_60 : decode cX0_isWhole 60 = .ok (.aload_n 0, 1) := by decide +kernel
theorem dX0_isWhole_61 : decode cX0_isWhole 61 = .ok (.iload_n 1, 1) := by decide +kernel
theorem dX0_isWhole_62 : decode cX0_isWhole 62 = .ok (.iconst 5, 1) := by decide +kernel
theorem dX0_isWhole_63 : decode cX0_isWhole 63 = .ok (.invokevirtual 36, 3) := by decide +kernel
theorem dX0_isWhole_66 : decode cX0_isWhole 66 = .ok (.iload_n 2, 1) := by decide +kernel
theorem dX0_isWhole_67 : decode cX0_isWhole 67 = .ok (.if_icmp .ne 7, 3) := by decide +kernel
theorem dX0_isWhole_70 : decode cX0_isWhole 70 = .ok (.iconst 1, 1) := by decide +kernel
theorem dX0_isWhole_71 : decode cX0_isWhole 71 = .ok (.goto 4, 3) := by decide +kernel
theorem dX0_isWhole_74 : decode cX0_isWhole 74 = .ok (.iconst 0, 1) := by decide +kernel
theorem dX0_isWhole_75 : decode cX0_isWhole 75 = .ok (.ireturn, 1) := by decide +kernel
theorem dX0_stateOf_0 : decode cX0_stateOf 0 = .ok (.aload_n 0, 1) := by decide +kernel
theorem dX0_stateOf_1 : decode cX0_stateOf 1 = .ok (.iload_n 1, 1) := by decide +kernel
theorem dX0_stateOf_2 : decode cX0_stateOf 2 = .ok (.iload_n 2, 1) := by decide +kernel
theorem dX0_stateOf_3 : decode cX0_stateOf 3 = .ok (.invokevirtual 44, 3) := by decide +kernel
theorem dX0_stateOf_6 : decode cX0_stateOf 6 = .ok (.ifCond .eq 5, 3) := by decide +kernel
theorem dX0_stateOf_9 : decode cX0_stateOf 9 = .ok (.iconst 0, 1) := by decide +kernel
theorem dX0_stateOf_10 : decode cX0_stateOf 10 = .ok (.ireturn, 1) := by decide +kernel
theorem dX0_stateOf_11 : decode cX0_stateOf 11 = .ok (.aload_n 0, 1) := by decide +kernel
theorem dX0_stateOf_12 : decode cX0_stateOf 12 = .ok (.iload_n 1, 1) := by decide +kernel
theorem dX0_stateOf_13 : decode cX0_stateOf 13 = .ok (.iload_n 2, 1) := by decide +kernel
theorem dX0_stateOf_14 : decode cX0_stateOf 14 = .ok (.iconst 0, 1) := by decide +kernel
theorem dX0_stateOf_15 : decode cX0_stateOf 15 = .ok (.invokevirtual 48, 3) := by decide +kernel
theorem dX0_stateOf_18 : decode cX0_stateOf 18 = .ok (.aload_n 0, 1) := by decide +kernel
theorem dX0_stateOf_19 : decode cX0_stateOf 19 = .ok (.iload_n 1, 1) := by decide +kernel
theorem dX0_stateOf_20 : decode cX0_stateOf 20 = .ok (.iload_n 2, 1) := by decide +kernel
theorem dX0_stateOf_21 : decode cX0_stateOf 21 = .ok (.iconst 1, 1) := by decide +kernel
theorem dX0_stateOf_22 : decode cX0_stateOf 22 = .ok (.invokevirtual 48, 3) := by decide +kernel
theorem dX0_stateOf_25 : decode cX0_stateOf 25 = .ok (.aload_n 0, 1) := by decide +kernel
theorem dX0_stateOf_26 : decode cX0_stateOf 26 = .ok (.iload_n 1, 1) := by decide +kernel
theorem dX0_stateOf_27 : decode cX0_stateOf 27 = .ok (.iload_n 2, 1) := by decide +kernel
theorem dX0_stateOf_28 : decode cX0_stateOf 28 = .ok (.iconst 2, 1) := by decide +kernel
theorem dX0_stateOf_29 : decode cX0_stateOf 29 = .ok (.invokevirtual 48, 3) := by decide +kernel
theorem dX0_stateOf_32 : decode cX0_stateOf 32 = .ok (.aload_n 0, 1) := by decide +kernel
theorem dX0_stateOf_33 : decode cX0_stateOf 33 = .ok (.iload_n 1, 1) := by decide +kernel
theorem dX0_stateOf_34 : decode cX0_stateOf 34 = .ok (.iconst 0, 1) := by decide +kernel
theorem dX0_stateOf_35 : decode cX0_stateOf 35 = .ok (.invokevirtual 36, 3) := by decide +kernel
theorem dX0_stateOf_38 : decode cX0_stateOf 38 = .ok (.invokestatic 52, 3) := by decide +kernel
theorem dX0_stateOf_41 : decode cX0_stateOf 41 = .ok (.istore_n 3, 1) := by decide +kernel
theorem dX0_stateOf_42 : decode cX0_stateOf 42 = .ok (.aload_n 0, 1) := by decide +kernel
theorem dX0_stateOf_43 : decode cX0_stateOf 43 = .ok (.iload_n 1, 1) := by decide +kernel
theorem dX0_stateOf_44 : decode cX0_stateOf 44 = .ok (.iload_n 2, 1) := by decide +kernel
theorem dX0_stateOf_45 : decode cX0_stateOf 45 = .ok (.iconst 3, 1) := by decide +kernel
theorem dX0_stateOf_46 : decode cX0_stateOf 46 = .ok (.invokevirtual 48, 3) := by decide +kernel
theorem dX0_stateOf_49 : decode cX0_stateOf 49 = .ok (.iload_n 3, 1) := by decide +kernel
theorem dX0_stateOf_50 : decode cX0_stateOf 50 = .ok (.if_icmp .ne 7, 3) := by decide +kernel
theorem dX0_stateOf_53 : decode cX0_stateOf 53 = .ok (.iconst 1, 1) := by decide +kernel
theorem dX0_stateOf_54 : decode cX0_stateOf 54 = .ok (.goto 4, 3) := by decide +kernel
theorem dX0_stateOf_57 : decode cX0_stateOf 57 = .ok (.iconst 2, 1) := by decide +kernel
theorem dX0_stateOf_58 : decode cX0_stateOf 58 = .ok (.ireturn, 1) := by decide +kernel
theorem dX0_isEmpty_0 : decode cX0_isEmpty 0 = .ok (.iconst 0, 1) := by decide +kernel
theorem dX0_isEmpty_1 : decode cX0_isEmpty 1 = .ok (.istore_n 3, 1) := by decide +kernel
theorem dX0_isEmpty_2 : decode cX0_isEmpty 2 = .ok (.iload_n 3, 1) := by decide +kernel
theorem dX0_isEmpty_3 : decode cX0_isEmpty 3 = .ok (.iconst 4, 1) := by decide +kernel
theorem dX0_isEmpty_4 : decode cX0_isEmpty 4 = .ok (.if_icmp .ge 23, 3) := by decide +kernel
theorem dX0_isEmpty_7 : decode cX0_isEmpty 7 = .ok (.aload_n 0, 1) := by decide +kernel
theorem dX0_isEmpty_8 : decode cX0_isEmpty 8 = .ok (.iload_n 1, 1) := by decide +kernel
theorem dX0_isEmpty_9 : decode cX0_isEmpty 9 = .ok (.iload_n 2, 1) := by decide +kernel
theorem dX0_isEmpty_10 : decode cX0_isEmpty 10 = .ok (.iload_n 3, 1) := by decide +kernel
theorem dX0_isEmpty_11 : decode cX0_isEmpty 11 = .ok (.invokevirtual 48, 3) := by decide +kernel
theorem dX0_isEmpty_14 : decode cX0_isEmpty 14 = .ok (.ldc 25, 2) := by decide +kernel
theorem dX0_isEmpty_16 : decode cX0_isEmpty 16 = .ok (.if_icmp .eq 5, 3) := by decide +kernel
theorem dX0_isEmpty_19 : decode cX0_isEmpty 19 = .ok (.iconst 0, 1) := by decide +kernel
theorem dX0_isEmpty_20 : decode cX0_isEmpty 20 = .ok (.ireturn, 1) := by decide +kernel
theorem dX0_isEmpty_21 : decode cX0_isEmpty 21 = .ok (.iinc 3 1, 3) := by decide +kernel
theorem dX0_isEmpty_24 : decode cX0_isEmpty 24 = .ok (.goto (-22), 3) := by decide +kernel
theorem dX0_isEmpty_27 : decode cX0_isEmpty 27 = .ok (.iconst 1, 1) := by decide +kernel
theorem dX0_isEmpty_28 : decode cX0_isEmpty 28 = .ok (.ireturn, 1) := by decide +kernel
theorem dX0_tallyIn_0 : decode cX0_tallyIn 0 = .ok (.aload_n 0, 1) := by decide +kernel
theorem dX0_tallyIn_1 : decode cX0_tallyIn 1 = .ok (.iload_n 1, 1) := by decide +kernel
theorem dX0_tallyIn_2 : decode cX0_tallyIn 2 = .ok (.invokevirtual 56, 3) := by decide +kernel
theorem dX0_tallyIn_5 : decode cX0_tallyIn 5 = .ok (.ifCond .ne 5, 3) := by decide +kernel
theorem dX0_tallyIn_8 : decode cX0_tallyIn 8 = .ok (.iconst 0, 1) := by decide +kernel
theorem dX0_tallyIn_9 : decode cX0_tallyIn 9 = .ok (.ireturn, 1) := by decide +kernel
theorem dX0_tallyIn_10 : decode cX0_tallyIn 10 = .ok (.iconst 0, 1) := by decide +kernel
theorem dX0_tallyIn_11 : decode cX0_tallyIn 11 = .ok (.istore_n 3, 1) := by decide +kernel
theorem dX0_tallyIn_12 : decode cX0_tallyIn 12 = .ok (.iconst 0, 1) := by decide +kernel
theorem dX0_tallyIn_13 : decode cX0_tallyIn 13 = .ok (.istore 4, 2) := by decide +kernel
theorem dX0_tallyIn_15 : decode cX0_tallyIn 15 = .ok (.iload 4, 2) := by decide +kernel
theorem dX0_tallyIn_17 : decode cX0_tallyIn 17 = .ok (.iconst 4, 1) := by decide +kernel
theorem dX0_tallyIn_18 : decode cX0_tallyIn 18 = .ok (.if_icmp .ge 23, 3) := by decide +kernel
theorem dX0_tallyIn_21 : decode cX0_tallyIn 21 = .ok (.aload_n 0, 1) := by decide +kernel
theorem dX0_tallyIn_22 : decode cX0_tallyIn 22 = .ok (.iload_n 1, 1) := by decide +kernel
theorem dX0_tallyIn_23 : decode cX0_tallyIn 23 = .ok (.iload 4, 2) := by decide +kernel
theorem dX0_tallyIn_25 : decode cX0_tallyIn 25 = .ok (.invokevirtual 60, 3) := by decide +kernel
theorem dX0_tallyIn_28 : decode cX0_tallyIn 28 = .ok (.iload_n 2, 1) := by decide +kernel
theorem dX0_tallyIn_29 : decode cX0_tallyIn 29 = .ok (.if_icmp .ne 6, 3) := by decide +kernel
theorem dX0_tallyIn_32 : decode cX0_tallyIn 32 = .ok (.iinc 3 1, 3) := by decide +kernel
theorem dX0_tallyIn_35 : decode cX0_tallyIn 35 = .ok (.iinc 4 1, 3) := by decide +kernel
theorem dX0_tallyIn_38 : decode cX0_tallyIn 38 = .ok (.goto (-23), 3) := by decide +kernel
theorem dX0_tallyIn_41 : decode cX0_tallyIn 41 = .ok (.iload_n 3, 1) := by decide +kernel
theorem dX0_tallyIn_42 : decode cX0_tallyIn 42 = .ok (.ireturn, 1) := by decide +kernel
theorem dX0_tally_0 : decode cX0_tally 0 = .ok (.iconst 0, 1) := by decide +kernel
theorem dX0_tally_1 : decode cX0_tally 1 = .ok (.istore_n 2, 1) := by decide +kernel
theorem dX0_tally_2 : decode cX0_tally 2 = .ok (.iconst 0, 1) := by decide +kernel
theorem dX0_tally_3 : decode cX0_tally 3 = .ok (.istore_n 3, 1) := by decide +kernel
theorem dX0_tally_4 : decode cX0_tally 4 = .ok (.iload_n 3, 1) := by decide +kernel
theorem dX0_tally_5 : decode cX0_tally 5 = .ok (.iconst 5, 1) := by decide +kernel
theorem dX0_tally_6 : decode cX0_tally 6 = .ok (.if_icmp .ge 18, 3) := by decide +kernel
theorem dX0_tally_9 : decode cX0_tally 9 = .ok (.iload_n 2, 1) := by decide +kernel
theorem dX0_tally_10 : decode cX0_tally 10 = .ok (.aload_n 0, 1) := by decide +kernel
theorem dX0_tally_11 : decode cX0_tally 11 = .ok (.iload_n 3, 1) := by decide +kernel
theorem dX0_tally_12 : decode cX0_tally 12 = .ok (.iload_n 1, 1) := by decide +kernel
theorem dX0_tally_13 : decode cX0_tally 13 = .ok (.invokevirtual 63, 3) := by decide +kernel
theorem dX0_tally_16 : decode cX0_tally 16 = .ok (.iadd, 1) := by decide +kernel
theorem dX0_tally_17 : decode cX0_tally 17 = .ok (.istore_n 2, 1) := by decide +kernel
theorem dX0_tally_18 : decode cX0_tally 18 = .ok (.iinc 3 1, 3) := by decide +kernel
theorem dX0_tally_21 : decode cX0_tally 21 = .ok (.goto (-17), 3) := by decide +kernel
theorem dX0_tally_24 : decode cX0_tally 24 = .ok (.iload_n 2, 1) := by decide +kernel
theorem dX0_tally_25 : decode cX0_tally 25 = .ok (.ireturn, 1) := by decide +kernel
theorem dX0_newestBlock_0 : decode cX0_newestBlock 0 = .ok (.iconst 0, 1) := by decide +kernel
theorem dX0_newestBlock_1 : decode cX0_newestBlock 1 = .ok (.istore_n 1, 1) := by decide +kernel
theorem dX0_newestBlock_2 : decode cX0_newestBlock 2 = .ok (.iload_n 1, 1) := by decide +kernel
theorem dX0_newestBlock_3 : decode cX0_newestBlock 3 = .ok (.iconst 5, 1) := by decide +kernel
theorem dX0_newestBlock_4 : decode cX0_newestBlock 4 = .ok (.if_icmp .ge 27, 3) := by decide +kernel
theorem dX0_newestBlock_7 : decode cX0_newestBlock 7 = .ok (.aload_n 0, 1) := by decide +kernel
theorem dX0_newestBlock_8 : decode cX0_newestBlock 8 = .ok (.iload_n 1, 1) := by decide +kernel
theorem dX0_newestBlock_9 : decode cX0_newestBlock 9 = .ok (.invokevirtual 56, 3) := by decide +kernel
theorem dX0_newestBlock_12 : decode cX0_newestBlock 12 = .ok (.ifCond .eq 13, 3) := by decide +kernel
theorem dX0_newestBlock_15 : decode cX0_newestBlock 15 = .ok (.aload_n 0, 1) := by decide +kernel
theorem dX0_newestBlock_16 : decode cX0_newestBlock 16 = .ok (.iload_n 1, 1) := by decide +kernel
theorem dX0_newestBlock_17 : decode cX0_newestBlock 17 = .ok (.invokevirtual 66, 3) := by decide +kernel
theorem dX0_newestBlock_20 : decode cX0_newestBlock 20 = .ok (.ifCond .ne 5, 3) := by decide +kernel
theorem dX0_newestBlock_23 : decode cX0_newestBlock 23 = .ok (.iload_n 1, 1) := by decide +kernel
theorem dX0_newestBlock_24 : decode cX0_newestBlock 24 = .ok (.ireturn, 1) := by decide +kernel
theorem dX0_newestBlock_25 : decode cX0_newestBlock 25 = .ok (.iinc 1 1, 3) := by decide +kernel
theorem dX0_newestBlock_28 : decode cX0_newestBlock 28 = .ok (.goto (-26), 3) := by decide +kernel
theorem dX0_newestBlock_31 : decode cX0_newestBlock 31 = .ok (.iconst 0, 1) := by decide +kernel
theorem dX0_newestBlock_32 : decode cX0_newestBlock 32 = .ok (.ireturn, 1) := by decide +kernel
theorem dX0_isFollowed_0 : decode cX0_isFollowed 0 = .ok (.aload_n 0, 1) := by decide +kernel
theorem dX0_isFollowed_1 : decode cX0_isFollowed 1 = .ok (.iload_n 1, 1) := by decide +kernel
theorem dX0_isFollowed_2 : decode cX0_isFollowed 2 = .ok (.iconst 0, 1) := by decide +kernel
theorem dX0_isFollowed_3 : decode cX0_isFollowed 3 = .ok (.invokevirtual 36, 3) := by decide +kernel
theorem dX0_isFollowed_6 : decode cX0_isFollowed 6 = .ok (.iconst 1, 1) := by decide +kernel
theorem dX0_isFollowed_7 : decode cX0_isFollowed 7 = .ok (.iadd, 1) := by decide +kernel
theorem dX0_isFollowed_8 : decode cX0_isFollowed 8 = .ok (.sipush 10000, 3) := by decide +kernel
theorem dX0_isFollowed_11 : decode cX0_isFollowed 11 = .ok (.irem, 1) := by decide +kernel
theorem dX0_isFollowed_12 : decode cX0_isFollowed 12 = .ok (.istore_n 2, 1) := by decide +kernel
theorem dX0_isFollowed_13 : decode cX0_isFollowed 13 = .ok (.iconst 0, 1) := by decide +kernel
theorem dX0_isFollowed_14 : decode cX0_isFollowed 14 = .ok (.istore_n 3, 1) := by decide +kernel
theorem dX0_isFollowed_15 : decode cX0_isFollowed 15 = .ok (.iload_n 3, 1) := by decide +kernel
theorem dX0_isFollowed_16 : decode cX0_isFollowed 16 = .ok (.iconst 5, 1) := by decide +kernel
theorem dX0_isFollowed_17 : decode cX0_isFollowed 17 = .ok (.if_icmp .ge 29, 3) := by decide +kernel
theorem dX0_isFollowed_20 : decode cX0_isFollowed 20 = .ok (.aload_n 0, 1) := by decide +kernel
theorem dX0_isFollowed_21 : decode cX0_isFollowed 21 = .ok (.iload_n 3, 1) := by decide +kernel
theorem dX0_isFollowed_22 : decode cX0_isFollowed 22 = .ok (.iconst 0, 1) := by decide +kernel
theorem dX0_isFollowed_23 : decode cX0_isFollowed 23 = .ok (.invokevirtual 36, 3) := by decide +kernel
theorem dX0_isFollowed_26 : decode cX0_isFollowed 26 = .ok (.iload_n 2, 1) := by decide +kernel
theorem dX0_isFollowed_27 : decode cX0_isFollowed 27 = .ok (.if_icmp .ne 13, 3) := by decide +kernel
theorem dX0_isFollowed_30 : decode cX0_isFollowed 30 = .ok (.aload_n 0, 1) := by decide +kernel
theorem dX0_isFollowed_31 : decode cX0_isFollowed 31 = .ok (.iload_n 3, 1) := by decide +kernel
theorem dX0_isFollowed_32 : decode cX0_isFollowed 32 = .ok (.invokevirtual 56, 3) := by decide +kernel
theorem dX0_isFollowed_35 : decode cX0_isFollowed 35 = .ok (.ifCond .eq 5, 3) := by decide +kernel
theorem dX0_isFollowed_38 : decode cX0_isFollowed 38 = .ok (.iconst 1, 1) := by decide +kernel
theorem dX0_isFollowed_39 : decode cX0_isFollowed 39 = .ok (.ireturn, 1) := by decide +kernel
theorem dX0_isFollowed_40 : decode cX0_isFollowed 40 = .ok (.iinc 3 1, 3) := by decide +kernel
theorem dX0_isFollowed_43 : decode cX0_isFollowed 43 = .ok (.goto (-28), 3) := by decide +kernel
theorem dX0_isFollowed_46 : decode cX0_isFollowed 46 = .ok (.iconst 0, 1) := by decide +kernel
theorem dX0_isFollowed_47 : decode cX0_isFollowed 47 = .ok (.ireturn, 1) := by decide +kernel
theorem dX0_nextPlaceIn_0 : decode cX0_nextPlaceIn 0 = .ok (.iconst 4, 1) := by decide +kernel
theorem dX0_nextPlaceIn_1 : decode cX0_nextPlaceIn 1 = .ok (.istore_n 2, 1) := by decide +kernel
theorem dX0_nextPlaceIn_2 : decode cX0_nextPlaceIn 2 = .ok (.iload_n 2, 1) := by decide +kernel
theorem dX0_nextPlaceIn_3 : decode cX0_nextPlaceIn 3 = .ok (.ifCond .le 20, 3) := by decide +kernel
theorem dX0_nextPlaceIn_6 : decode cX0_nextPlaceIn 6 = .ok (.aload_n 0, 1) := by decide +kernel
theorem dX0_nextPlaceIn_7 : decode cX0_nextPlaceIn 7 = .ok (.iload_n 1, 1) := by decide +kernel
theorem dX0_nextPlaceIn_8 : decode cX0_nextPlaceIn 8 = .ok (.iload_n 2, 1) := by decide +kernel
theorem dX0_nextPlaceIn_9 : decode cX0_nextPlaceIn 9 = .ok (.iconst 1, 1) := by decide +kernel
theorem dX0_nextPlaceIn_10 : decode cX0_nextPlaceIn 10 = .ok (.isub, 1) := by decide +kernel
theorem dX0_nextPlaceIn_11 : decode cX0_nextPlaceIn 11 = .ok (.invokevirtual 44, 3) := by decide +kernel
theorem dX0_nextPlaceIn_14 : decode cX0_nextPlaceIn 14 = .ok (.ifCond .eq 9, 3) := by decide +kernel
theorem dX0_nextPlaceIn_17 : decode cX0_nextPlaceIn 17 = .ok (.iinc 2 (-1), 3) := by decide +kernel
theorem dX0_nextPlaceIn_20 : decode cX0_nextPlaceIn 20 = .ok (.goto (-18), 3) := by decide +kernel
theorem dX0_nextPlaceIn_23 : decode cX0_nextPlaceIn 23 = .ok (.iload_n 2, 1) := by decide +kernel
theorem dX0_nextPlaceIn_24 : decode cX0_nextPlaceIn 24 = .ok (.ireturn, 1) := by decide +kernel
theorem dX1_init_0 : decode cX1_init 0 = .ok (.aload_n 0, 1) := by decide +kernel
theorem dX1_init_1 : decode cX1_init 1 = .ok (.invokespecial 1, 3) := by decide +kernel
theorem dX1_init_4 : decode cX1_init 4 = .ok (.aload_n 0, 1) := by decide +kernel
theorem dX1_init_5 : decode cX1_init 5 = .ok (.new 7, 3) := by decide +kernel
theorem dX1_init_8 : decode cX1_init 8 = .ok (.dup, 1) := by decide +kernel
theorem dX1_init_9 : decode cX1_init 9 = .ok (.invokespecial 9, 3) := by decide +kernel
theorem dX1_init_12 : decode cX1_init 12 = .ok (.putfield 10, 3) := by decide +kernel
theorem dX1_init_15 : decode cX1_init 15 = .ok (.aload_n 0, 1) := by decide +kernel
theorem dX1_init_16 : decode cX1_init 16 = .ok (.iconst 0, 1) := by decide +kernel
theorem dX1_init_17 : decode cX1_init 17 = .ok (.putfield 16, 3) := by decide +kernel
theorem dX1_init_20 : decode cX1_init 20 = .ok (.return_, 1) := by decide +kernel
theorem dX1_store_0 : decode cX1_store 0 = .ok (.aload_n 0, 1) := by decide +kernel
theorem dX1_store_1 : decode cX1_store 1 = .ok (.getfield 10, 3) := by decide +kernel
theorem dX1_store_4 : decode cX1_store 4 = .ok (.aload_n 1, 1) := by decide +kernel
theorem dX1_store_5 : decode cX1_store 5 = .ok (.invokevirtual 20, 3) := by decide +kernel
theorem dX1_store_8 : decode cX1_store 8 = .ok (.aload_n 0, 1) := by decide +kernel
theorem dX1_store_9 : decode cX1_store 9 = .ok (.iconst 1, 1) := by decide +kernel
theorem dX1_store_10 : decode cX1_store 10 = .ok (.putfield 16, 3) := by decide +kernel
theorem dX1_store_13 : decode cX1_store 13 = .ok (.return_, 1) := by decide +kernel
theorem dX2_init_0 : decode cX2_init 0 = .ok (.aload_n 0, 1) := by decide +kernel
theorem dX2_init_1 : decode cX2_init 1 = .ok (.invokespecial 3, 3) := by decide +kernel
theorem dX2_init_4 : decode cX2_init 4 = .ok (.aload_n 0, 1) := by decide +kernel
theorem dX2_init_5 : decode cX2_init 5 = .ok (.bipush 120, 2) := by decide +kernel
theorem dX2_init_7 : decode cX2_init 7 = .ok (.newarray .int, 2) := by decide +kernel
theorem dX2_init_9 : decode cX2_init 9 = .ok (.putfield 9, 3) := by decide +kernel
theorem dX2_init_12 : decode cX2_init 12 = .ok (.aload_n 0, 1) := by decide +kernel
theorem dX2_init_13 : decode cX2_init 13 = .ok (.iconst 0, 1) := by decide +kernel
theorem dX2_init_14 : decode cX2_init 14 = .ok (.putfield 15, 3) := by decide +kernel
theorem dX2_init_17 : decode cX2_init 17 = .ok (.return_, 1) := by decide +kernel
theorem dX2_gather_0 : decode cX2_gather 0 = .ok (.aload_n 0, 1) := by decide +kernel
theorem dX2_gather_1 : decode cX2_gather 1 = .ok (.iconst 0, 1) := by decide +kernel
theorem dX2_gather_2 : decode cX2_gather 2 = .ok (.putfield 15, 3) := by decide +kernel
theorem dX2_gather_5 : decode cX2_gather 5 = .ok (.aload_n 1, 1) := by decide +kernel
theorem dX2_gather_6 : decode cX2_gather 6 = .ok (.invokevirtual 19, 3) := by decide +kernel
theorem dX2_gather_9 : decode cX2_gather 9 = .ok (.istore_n 2, 1) := by decide +kernel
theorem dX2_gather_10 : decode cX2_gather 10 = .ok (.iconst 1, 1) := by decide +kernel
theorem dX2_gather_11 : decode cX2_gather 11 = .ok (.istore_n 3, 1) := by decide +kernel
theorem dX2_gather_12 : decode cX2_gather 12 = .ok (.iload_n 3, 1) := by decide +kernel
theorem dX2_gather_13 : decode cX2_gather 13 = .ok (.iconst 5, 1) := by decide +kernel
theorem dX2_gather_14 : decode cX2_gather 14 = .ok (.if_icmp .gt 65, 3) := by decide +kernel
theorem dX2_gather_17 : decode cX2_gather 17 = .ok (.iload_n 2, 1) := by decide +kernel
theorem dX2_gather_18 : decode cX2_gather 18 = .ok (.iload_n 3, 1) := by decide +kernel
theorem dX2_gather_19 : decode cX2_gather 19 = .ok (.iadd, 1) := by decide +kernel
theorem dX2_gather_20 : decode cX2_gather 20 = .ok (.iconst 5, 1) := by decide +kernel
theorem dX2_gather_21 : decode cX2_gather 21 = .ok (.irem, 1) := by decide +kernel
theorem dX2_gather_22 : decode cX2_gather 22 = .ok (.istore 4, 2) := by decide +kernel
theorem dX2_gather_24 : decode cX2_gather 24 = .ok (.aload_n 1, 1) := by decide +kernel
theorem dX2_gather_25 : decode cX2_gather 25 = .ok (.iload 4, 2) := by decide +kernel
theorem dX2_gather_27 : decode cX2_gather 27 = .ok (.invokevirtual 25, 3) := by decide +kernel
theorem dX2_gather_30 : decode cX2_gather 30 = .ok (.istore 5, 2) := by decide +kernel
theorem dX2_gather_32 : decode cX2_gather 32 = .ok (.iconst 0, 1) := by decide +kernel
theorem dX2_gather_33 : decode cX2_gather 33 = .ok (.istore 6, 2) := by decide +kernel
theorem dX2_gather_35 : decode cX2_gather 35 = .ok (.iload 5, 2) := by decide +kernel
theorem dX2_gather_37 : decode cX2_gather 37 = .ok (.ifCond .eq 36, 3) := by decide +kernel
theorem dX2_gather_40 : decode cX2_gather 40 = .ok (.iload 6, 2) := by decide +kernel
theorem dX2_gather_42 : decode cX2_gather 42 = .ok (.iconst 4, 1) := by decide +kernel
theorem dX2_gather_43 : decode cX2_gather 43 = .ok (.if_icmp .ge 30, 3) := by decide +kernel
theorem dX2_gather_46 : decode cX2_gather 46 = .ok (.aload_n 1, 1) := by decide +kernel
theorem dX2_gather_47 : decode cX2_gather 47 = .ok (.iload 4, 2) := by decide +kernel
theorem dX2_gather_49 : decode cX2_gather 49 = .ok (.iload 6, 2) := by decide +kernel
theorem dX2_gather_51 : decode cX2_gather 51 = .ok (.invokevirtual 29, 3) := by decide +kernel
theorem dX2_gather_54 : decode cX2_gather 54 = .ok (.iconst 1, 1) := by decide +kernel
theorem dX2_gather_55 : decode cX2_gather 55 = .ok (.if_icmp .ne 12, 3) := by decide +kernel
theorem dX2_gather_58 : decode cX2_gather 58 = .ok (.aload_n 0, 1) := by decide +kernel
theorem dX2_gather_59 : decode cX2_gather 59 = .ok (.aload_n 1, 1) := by decide +kernel
theorem dX2_gather_60 : decode cX2_gather 60 = .ok (.iload 4, 2) := by decide +kernel
theorem dX2_gather_62 : decode cX2_gather 62 = .ok (.iload 6, 2) := by decide +kernel
theorem dX2_gather_64 : decode cX2_gather 64 = .ok (.invokevirtual 33, 3) := by decide +kernel
theorem dX2_gather_67 : decode cX2_gather 67 = .ok (.iinc 6 1, 3) := by decide +kernel
theorem dX2_gather_70 : decode cX2_gather 70 = .ok (.goto (-35), 3) := by decide +kernel
theorem dX2_gather_73 : decode cX2_gather 73 = .ok (.iinc 3 1, 3) := by decide +kernel
theorem dX2_gather_76 : decode cX2_gather 76 = .ok (.goto (-64), 3) := by decide +kernel
theorem dX2_gather_79 : decode cX2_gather 79 = .ok (.aload_n 0, 1) := by decide +kernel
theorem dX2_gather_80 : decode cX2_gather 80 = .ok (.areturn, 1) := by decide +kernel
theorem dX2_add_0 : decode cX2_add 0 = .ok (.aload_n 1, 1) := by decide +kernel
theorem dX2_add_1 : decode cX2_add 1 = .ok (.iload_n 2, 1) := by decide +kernel
theorem dX2_add_2 : decode cX2_add 2 = .ok (.iload_n 3, 1) := by decide +kernel
theorem dX2_add_3 : decode cX2_add 3 = .ok (.iconst 0, 1) := by decide +kernel
theorem dX2_add_4 : decode cX2_add 4 = .ok (.invokevirtual 37, 3) := by decide +kernel
theorem dX2_add_7 : decode cX2_add 7 = .ok (.istore 4, 2) := by decide +kernel
theorem dX2_add_9 : decode cX2_add 9 = .ok (.aload_n 0, 1) := by decide +kernel
theorem dX2_add_10 : decode cX2_add 10 = .ok (.iconst 0, 1) := by decide +kernel
theorem dX2_add_11 : decode cX2_add 11 = .ok (.iload 4, 2) := by decide +kernel
theorem dX2_add_13 : decode cX2_add 13 = .ok (.sipush 10000, 3) := by decide +kernel
theorem dX2_add_16 : decode cX2_add 16 = .ok (.irem, 1) := by decide +kernel
theorem dX2_add_17 : decode cX2_add 17 = .ok (.invokevirtual 41, 3) := by decide +kernel
theorem dX2_add_20 : decode cX2_add 20 = .ok (.aload_n 0, 1) := by decide +kernel
theorem dX2_add_21 : decode cX2_add 21 = .ok (.iconst 1, 1) := by decide +kernel
theorem dX2_add_22 : decode cX2_add 22 = .ok (.iload 4, 2) := by decide +kernel
theorem dX2_add_24 : decode cX2_add 24 = .ok (.sipush 10000, 3) := by decide +kernel
theorem dX2_add_27 : decode cX2_add 27 = .ok (.idiv, 1) := by decide +kernel
theorem dX2_add_28 : decode cX2_add 28 = .ok (.invokevirtual 41, 3) := by decide +kernel
theorem dX2_add_31 : decode cX2_add 31 = .ok (.aload_n 0, 1) := by decide +kernel
theorem dX2_add_32 : decode cX2_add 32 = .ok (.iconst 2, 1) := by decide +kernel
theorem dX2_add_33 : decode cX2_add 33 = .ok (.aload_n 1, 1) := by decide +kernel
theorem dX2_add_34 : decode cX2_add 34 = .ok (.iload_n 2, 1) := by decide +kernel
theorem dX2_add_35 : decode cX2_add 35 = .ok (.iload_n 3, 1) := by decide +kernel
theorem dX2_add_36 : decode cX2_add 36 = .ok (.iconst 1, 1) := by decide +kernel
theorem dX2_add_37 : decode cX2_add 37 = .ok (.invokevirtual 37, 3) := by decide +kernel
theorem dX2_add_40 : decode cX2_add 40 = .ok (.invokevirtual 41, 3) := by decide +kernel
theorem dX2_add_43 : decode cX2_add 43 = .ok (.aload_n 0, 1) := by decide +kernel
theorem dX2_add_44 : decode cX2_add 44 = .ok (.iconst 3, 1) := by decide +kernel
theorem dX2_add_45 : decode cX2_add 45 = .ok (.aload_n 1, 1) := by decide +kernel
theorem dX2_add_46 : decode cX2_add 46 = .ok (.iload_n 2, 1) := by decide +kernel
theorem dX2_add_47 : decode cX2_add 47 = .ok (.iload_n 3, 1) := by decide +kernel
theorem dX2_add_48 : decode cX2_add 48 = .ok (.iconst 2, 1) := by decide +kernel
theorem dX2_add_49 : decode cX2_add 49 = .ok (.invokevirtual 37, 3) := by decide +kernel
theorem dX2_add_52 : decode cX2_add 52 = .ok (.invokevirtual 41, 3) := by decide +kernel
theorem dX2_add_55 : decode cX2_add 55 = .ok (.aload_n 0, 1) := by decide +kernel
theorem dX2_add_56 : decode cX2_add 56 = .ok (.iconst 4, 1) := by decide +kernel
theorem dX2_add_57 : decode cX2_add 57 = .ok (.iload_n 2, 1) := by decide +kernel
theorem dX2_add_58 : decode cX2_add 58 = .ok (.invokevirtual 41, 3) := by decide +kernel
theorem dX2_add_61 : decode cX2_add 61 = .ok (.aload_n 0, 1) := by decide +kernel
theorem dX2_add_62 : decode cX2_add 62 = .ok (.iconst 5, 1) := by decide +kernel
theorem dX2_add_63 : decode cX2_add 63 = .ok (.iload_n 3, 1) := by decide +kernel
theorem dX2_add_64 : decode cX2_add 64 = .ok (.invokevirtual 41, 3) := by decide +kernel
theorem dX2_add_67 : decode cX2_add 67 = .ok (.aload_n 0, 1) := by decide +kernel
theorem dX2_add_68 : decode cX2_add 68 = .ok (.dup, 1) := by decide +kernel
theorem dX2_add_69 : decode cX2_add 69 = .ok (.getfield 15, 3) := by decide +kernel
theorem dX2_add_72 : decode cX2_add 72 = .ok (.iconst 1, 1) := by decide +kernel
theorem dX2_add_73 : decode cX2_add 73 = .ok (.iadd, 1) := by decide +kernel
theorem dX2_add_74 : decode cX2_add 74 = .ok (.putfield 15, 3) := by decide +kernel
theorem dX2_add_77 : decode cX2_add 77 = .ok (.return_, 1) := by decide +kernel
theorem dX2_setDetail_0 : decode cX2_setDetail 0 = .ok (.aload_n 0, 1) := by decide +kernel
theorem dX2_setDetail_1 : decode cX2_setDetail 1 = .ok (.getfield 15, 3) := by decide +kernel
theorem dX2_setDetail_4 : decode cX2_setDetail 4 = .ok (.bipush 6, 2) := by decide +kernel
theorem dX2_setDetail_6 : decode cX2_setDetail 6 = .ok (.imul, 1) := by decide +kernel
theorem dX2_setDetail_7 : decode cX2_setDetail 7 = .ok (.iload_n 1, 1) := by decide +kernel
theorem dX2_setDetail_8 : decode cX2_setDetail 8 = .ok (.iadd, 1) := by decide +kernel
theorem dX2_setDetail_9 : decode cX2_setDetail 9 = .ok (.istore_n 3, 1) := by decide +kernel
theorem dX2_setDetail_10 : decode cX2_setDetail 10 = .ok (.iload_n 3, 1) := by decide +kernel
theorem dX2_setDetail_11 : decode cX2_setDetail 11 = .ok (.ifCond .lt 19, 3) := by decide +kernel
theorem dX2_setDetail_14 : decode cX2_setDetail 14 = .ok (.iload_n 3, 1) := by decide +kernel
theorem dX2_setDetail_15 : decode cX2_setDetail 15 = .ok (.aload_n 0, 1) := by decide +kernel
theorem dX2_setDetail_16 : decode cX2_setDetail 16 = .ok (.getfield 9, 3) := by decide +kernel
theorem dX2_setDetail_19 : decode cX2_setDetail 19 = .ok (.arraylength, 1) := by decide +kernel
theorem dX2_setDetail_20 : decode cX2_setDetail 20 = .ok (.if_icmp .ge 10, 3) := by decide +kernel
theorem dX2_setDetail_23 : decode cX2_setDetail 23 = .ok (.aload_n 0, 1) := by decide +kernel
theorem dX2_setDetail_24 : decode cX2_setDetail 24 = .ok (.getfield 9, 3) := by decide +kernel
theorem dX2_setDetail_27 : decode cX2_setDetail 27 = .ok (.iload_n 3, 1) := by decide +kernel
theorem dX2_setDetail_28 : decode cX2_setDetail 28 = .ok (.iload_n 2, 1) := by decide +kernel
theorem dX2_setDetail_29 : decode cX2_setDetail 29 = .ok (.iastore, 1) := by decide +kernel
theorem dX2_setDetail_30 : decode cX2_setDetail 30 = .ok (.return_, 1) := by decide +kernel
theorem dX2_detail_0 : decode cX2_detail 0 = .ok (.iload_n 1, 1) := by decide +kernel
theorem dX2_detail_1 : decode cX2_detail 1 = .ok (.bipush 6, 2) := by decide +kernel
theorem dX2_detail_3 : decode cX2_detail 3 = .ok (.imul, 1) := by decide +kernel
theorem dX2_detail_4 : decode cX2_detail 4 = .ok (.iload_n 2, 1) := by decide +kernel
theorem dX2_detail_5 : decode cX2_detail 5 = .ok (.iadd, 1) := by decide +kernel
theorem dX2_detail_6 : decode cX2_detail 6 = .ok (.istore_n 3, 1) := by decide +kernel
theorem dX2_detail_7 : decode cX2_detail 7 = .ok (.iload_n 1, 1) := by decide +kernel
theorem dX2_detail_8 : decode cX2_detail 8 = .ok (.ifCond .lt 33, 3) := by decide +kernel
theorem dX2_detail_11 : decode cX2_detail 11 = .ok (.iload_n 1, 1) := by decide +kernel
theorem dX2_detail_12 : decode cX2_detail 12 = .ok (.aload_n 0, 1) := by decide +kernel
theorem dX2_detail_13 : decode cX2_detail 13 = .ok (.getfield 15, 3) := by decide +kernel
theorem dX2_detail_16 : decode cX2_detail 16 = .ok (.if_icmp .ge 25, 3) := by decide +kernel
theorem dX2_detail_19 : decode cX2_detail 19 = .ok (.iload_n 3, 1) := by decide +kernel
theorem dX2_detail_20 : decode cX2_detail 20 = .ok (.ifCond .lt 21, 3) := by decide +kernel
theorem dX2_detail_23 : decode cX2_detail 23 = .ok (.iload_n 3, 1) := by decide +kernel
theorem dX2_detail_24 : decode cX2_detail 24 = .ok (.aload_n 0, 1) := by decide +kernel
theorem dX2_detail_25 : decode cX2_detail 25 = .ok (.getfield 9, 3) := by decide +kernel
theorem dX2_detail_28 : decode cX2_detail 28 = .ok (.arraylength, 1) := by decide +kernel
theorem dX2_detail_29 : decode cX2_detail 29 = .ok (.if_icmp .ge 12, 3) := by decide +kernel
theorem dX2_detail_32 : decode cX2_detail 32 = .ok (.aload_n 0, 1) := by decide +kernel
theorem dX2_detail_33 : decode cX2_detail 33 = .ok (.getfield 9, 3) := by decide +kernel
theorem dX2_detail_36 : decode cX2_detail 36 = .ok (.iload_n 3, 1) := by decide +kernel
theorem dX2_detail_37 : decode cX2_detail 37 = .ok (.iaload, 1) := by decide +kernel
theorem dX2_detail_38 : decode cX2_detail 38 = .ok (.goto 5, 3) := by decide +kernel
theorem dX2_detail_41 : decode cX2_detail 41 = .ok (.bipush (-9), 2) := by decide +kernel
theorem dX2_detail_43 : decode cX2_detail 43 = .ok (.ireturn, 1) := by decide +kernel
theorem dX2_countOf_0 : decode cX2_countOf 0 = .ok (.iconst 0, 1) := by decide +kernel
theorem dX2_countOf_1 : decode cX2_countOf 1 = .ok (.istore_n 2, 1) := by decide +kernel
theorem dX2_countOf_2 : decode cX2_countOf 2 = .ok (.iconst 0, 1) := by decide +kernel
theorem dX2_countOf_3 : decode cX2_countOf 3 = .ok (.istore_n 3, 1) := by decide +kernel
theorem dX2_countOf_4 : decode cX2_countOf 4 = .ok (.iload_n 3, 1) := by decide +kernel
theorem dX2_countOf_5 : decode cX2_countOf 5 = .ok (.aload_n 0, 1) := by decide +kernel
theorem dX2_countOf_6 : decode cX2_countOf 6 = .ok (.getfield 15, 3) := by decide +kernel
theorem dX2_countOf_9 : decode cX2_countOf 9 = .ok (.if_icmp .ge 22, 3) := by decide +kernel
theorem dX2_countOf_12 : decode cX2_countOf 12 = .ok (.aload_n 0, 1) := by decide +kernel
theorem dX2_countOf_13 : decode cX2_countOf 13 = .ok (.iload_n 3, 1) := by decide +kernel
theorem dX2_countOf_14 : decode cX2_countOf 14 = .ok (.iconst 1, 1) := by decide +kernel
theorem dX2_countOf_15 : decode cX2_countOf 15 = .ok (.invokevirtual 45, 3) := by decide +kernel
theorem dX2_countOf_18 : decode cX2_countOf 18 = .ok (.iload_n 1, 1) := by decide +kernel
theorem dX2_countOf_19 : decode cX2_countOf 19 = .ok (.if_icmp .ne 6, 3) := by decide +kernel
theorem dX2_countOf_22 : decode cX2_countOf 22 = .ok (.iinc 2 1, 3) := by decide +kernel
theorem dX2_countOf_25 : decode cX2_countOf 25 = .ok (.iinc 3 1, 3) := by decide +kernel
theorem dX2_countOf_28 : decode cX2_countOf 28 = .ok (.goto (-24), 3) := by decide +kernel
theorem dX2_countOf_31 : decode cX2_countOf 31 = .ok (.iload_n 2, 1) := by decide +kernel
theorem dX2_countOf_32 : decode cX2_countOf 32 = .ok (.ireturn, 1) := by decide +kernel
theorem dX2_pricesOf_0 : decode cX2_pricesOf 0 = .ok (.iconst 0, 1) := by decide +kernel
theorem dX2_pricesOf_1 : decode cX2_pricesOf 1 = .ok (.istore_n 3, 1) := by decide +kernel
theorem dX2_pricesOf_2 : decode cX2_pricesOf 2 = .ok (.iconst 0, 1) := by decide +kernel
theorem dX2_pricesOf_3 : decode cX2_pricesOf 3 = .ok (.istore 4, 2) := by decide +kernel
theorem dX2_pricesOf_5 : decode cX2_pricesOf 5 = .ok (.iload 4, 2) := by decide +kernel
theorem dX2_pricesOf_7 : decode cX2_pricesOf 7 = .ok (.aload_n 0, 1) := by decide +kernel
theorem dX2_pricesOf_8 : decode cX2_pricesOf 8 = .ok (.getfield 15, 3) := by decide +kernel
theorem dX2_pricesOf_11 : decode cX2_pricesOf 11 = .ok (.if_icmp .ge 65, 3) := by decide +kernel
theorem dX2_pricesOf_14 : decode cX2_pricesOf 14 = .ok (.aload_n 0, 1) := by decide +kernel
theorem dX2_pricesOf_15 : decode cX2_pricesOf 15 = .ok (.iload 4, 2) := by decide +kernel
theorem dX2_pricesOf_17 : decode cX2_pricesOf 17 = .ok (.iconst 3, 1) := by decide +kernel
theorem dX2_pricesOf_18 : decode cX2_pricesOf 18 = .ok (.invokevirtual 45, 3) := by decide +kernel
theorem dX2_pricesOf_21 : decode cX2_pricesOf 21 = .ok (.istore 5, 2) := by decide +kernel
theorem dX2_pricesOf_23 : decode cX2_pricesOf 23 = .ok (.iload_n 2, 1) := by decide +kernel
theorem dX2_pricesOf_24 : decode cX2_pricesOf 24 = .ok (.iconst (-1), 1) := by decide +kernel
theorem dX2_pricesOf_25 : decode cX2_pricesOf 25 = .ok (.if_icmp .eq 13, 3) := by decide +kernel
theorem dX2_pricesOf_28 : decode cX2_pricesOf 28 = .ok (.iload 5, 2) := by decide +kernel
theorem dX2_pricesOf_30 : decode cX2_pricesOf 30 = .ok (.sipush 1000, 3) := by decide +kernel
theorem dX2_pricesOf_33 : decode cX2_pricesOf 33 = .ok (.idiv, 1) := by decide +kernel
theorem dX2_pricesOf_34 : decode cX2_pricesOf 34 = .ok (.iload_n 2, 1) := by decide +kernel
theorem dX2_pricesOf_35 : decode cX2_pricesOf 35 = .ok (.if_icmp .ne 7, 3) := by decide +kernel
theorem dX2_pricesOf_38 : decode cX2_pricesOf 38 = .ok (.iconst 1, 1) := by decide +kernel
theorem dX2_pricesOf_39 : decode cX2_pricesOf 39 = .ok (.goto 4, 3) := by decide +kernel
theorem dX2_pricesOf_42 : decode cX2_pricesOf 42 = .ok (.iconst 0, 1) := by decide +kernel
theorem dX2_pricesOf_43 : decode cX2_pricesOf 43 = .ok (.istore 6, 2) := by decide +kernel
theorem dX2_pricesOf_45 : decode cX2_pricesOf 45 = .ok (.iload 6, 2) := by decide +kernel
theorem dX2_pricesOf_47 : decode cX2_pricesOf 47 = .ok (.ifCond .eq 23, 3) := by decide +kernel
theorem dX2_pricesOf_50 : decode cX2_pricesOf 50 = .ok (.aload_n 0, 1) := by decide +kernel
theorem dX2_pricesOf_51 : decode cX2_pricesOf 51 = .ok (.iload 4, 2) := by decide +kernel
theorem dX2_pricesOf_53 : decode cX2_pricesOf 53 = .ok (.iconst 1, 1) := by decide +kernel
theorem dX2_pricesOf_54 : decode cX2_pricesOf 54 = .ok (.invokevirtual 45, 3) := by decide +kernel
theorem dX2_pricesOf_57 : decode cX2_pricesOf 57 = .ok (.iload_n 1, 1) := by decide +kernel
theorem dX2_pricesOf_58 : decode cX2_pricesOf 58 = .ok (.if_icmp .ne 12, 3) := by decide +kernel
theorem dX2_pricesOf_61 : decode cX2_pricesOf 61 = .ok (.iload_n 3, 1) := by decide +kernel
theorem dX2_pricesOf_62 : decode cX2_pricesOf 62 = .ok (.iload 5, 2) := by decide +kernel
theorem dX2_pricesOf_64 : decode cX2_pricesOf 64 = .ok (.sipush 1000, 3) := by decide +kernel
theorem dX2_pricesOf_67 : decode cX2_pricesOf 67 = .ok (.irem, 1) := by decide +kernel
theorem dX2_pricesOf_68 : decode cX2_pricesOf 68 = .ok (.iadd, 1) := by decide +kernel
theorem dX2_pricesOf_69 : decode cX2_pricesOf 69 = .ok (.istore_n 3, 1) := by decide +kernel
theorem dX2_pricesOf_70 : decode cX2_pricesOf 70 = .ok (.iinc 4 1, 3) := by decide +kernel
theorem dX2_pricesOf_73 : decode cX2_pricesOf 73 = .ok (.goto (-68), 3) := by decide +kernel
theorem dX2_pricesOf_76 : decode cX2_pricesOf 76 = .ok (.iload_n 3, 1) := by decide +kernel
theorem dX2_pricesOf_77 : decode cX2_pricesOf 77 = .ok (.ireturn, 1) := by decide +kernel
theorem dX3_init_0 : decode cX3_init 0 = .ok (.aload_n 0, 1) := by decide +kernel
theorem dX3_init_1 : decode cX3_init 1 = .ok (.invokespecial 3, 3) := by decide +kernel
theorem dX3_init_4 : decode cX3_init 4 = .ok (.aload_n 0, 1) := by decide +kernel
theorem dX3_init_5 : decode cX3_init 5 = .ok (.iconst 0, 1) := by decide +kernel
theorem dX3_init_6 : decode cX3_init 6 = .ok (.putfield 9, 3) := by decide +kernel
theorem dX3_init_9 : decode cX3_init 9 = .ok (.aload_n 0, 1) := by decide +kernel
theorem dX3_init_10 : decode cX3_init 10 = .ok (.iconst 0, 1) := by decide +kernel
theorem dX3_init_11 : decode cX3_init 11 = .ok (.putfield 15, 3) := by decide +kernel
theorem dX3_init_14 : decode cX3_init 14 = .ok (.aload_n 0, 1) := by decide +kernel
theorem dX3_init_15 : decode cX3_init 15 = .ok (.iconst 0, 1) := by decide +kernel
theorem dX3_init_16 : decode cX3_init 16 = .ok (.putfield 18, 3) := by decide +kernel
theorem dX3_init_19 : decode cX3_init 19 = .ok (.aload_n 0, 1) := by decide +kernel
theorem dX3_init_20 : decode cX3_init 20 = .ok (.iconst 0, 1) := by decide +kernel
theorem dX3_init_21 : decode cX3_init 21 = .ok (.putfield 21, 3) := by decide +kernel
theorem dX3_init_24 : decode cX3_init 24 = .ok (.aload_n 0, 1) := by decide +kernel
theorem dX3_init_25 : decode cX3_init 25 = .ok (.iconst 0, 1) := by decide +kernel
theorem dX3_init_26 : decode cX3_init 26 = .ok (.putfield 24, 3) := by decide +kernel
theorem dX3_init_29 : decode cX3_init 29 = .ok (.aload_n 0, 1) := by decide +kernel
theorem dX3_init_30 : decode cX3_init 30 = .ok (.iconst 0, 1) := by decide +kernel
theorem dX3_init_31 : decode cX3_init 31 = .ok (.putfield 27, 3) := by decide +kernel
theorem dX3_init_34 : decode cX3_init 34 = .ok (.return_, 1) := by decide +kernel
theorem dX3_copyFrom_0 : decode cX3_copyFrom 0 = .ok (.aload_n 0, 1) := by decide +kernel
theorem dX3_copyFrom_1 : decode cX3_copyFrom 1 = .ok (.aload_n 1, 1) := by decide +kernel
theorem dX3_copyFrom_2 : decode cX3_copyFrom 2 = .ok (.getfield 9, 3) := by decide +kernel
theorem dX3_copyFrom_5 : decode cX3_copyFrom 5 = .ok (.putfield 9, 3) := by decide +kernel
theorem dX3_copyFrom_8 : decode cX3_copyFrom 8 = .ok (.aload_n 0, 1) := by decide +kernel
theorem dX3_copyFrom_9 : decode cX3_copyFrom 9 = .ok (.aload_n 1, 1) := by decide +kernel
theorem dX3_copyFrom_10 : decode cX3_copyFrom 10 = .ok (.getfield 15, 3) := by decide +kernel
theorem dX3_copyFrom_13 : decode cX3_copyFrom 13 = .ok (.putfield 15, 3) := by decide +kernel
theorem dX3_copyFrom_16 : decode cX3_copyFrom 16 = .ok (.aload_n 0, 1) := by decide +kernel
theorem dX3_copyFrom_17 : decode cX3_copyFrom 17 = .ok (.aload_n 1, 1) := by decide +kernel
theorem dX3_copyFrom_18 : decode cX3_copyFrom 18 = .ok (.getfield 18, 3) := by decide +kernel
theorem dX3_copyFrom_21 : decode cX3_copyFrom 21 = .ok (.putfield 18, 3) := by decide +kernel
theorem dX3_copyFrom_24 : decode cX3_copyFrom 24 = .ok (.aload_n 0, 1) := by decide +kernel
theorem dX3_copyFrom_25 : decode cX3_copyFrom 25 = .ok (.aload_n 1, 1) := by decide +kernel
theorem dX3_copyFrom_26 : decode cX3_copyFrom 26 = .ok (.getfield 21, 3) := by decide +kernel
theorem dX3_copyFrom_29 : decode cX3_copyFrom 29 = .ok (.putfield 21, 3) := by decide +kernel
theorem dX3_copyFrom_32 : decode cX3_copyFrom 32 = .ok (.aload_n 0, 1) := by decide +kernel
theorem dX3_copyFrom_33 : decode cX3_copyFrom 33 = .ok (.aload_n 1, 1) := by decide +kernel
theorem dX3_copyFrom_34 : decode cX3_copyFrom 34 = .ok (.getfield 24, 3) := by decide +kernel
theorem dX3_copyFrom_37 : decode cX3_copyFrom 37 = .ok (.putfield 24, 3) := by decide +kernel
theorem dX3_copyFrom_40 : decode cX3_copyFrom 40 = .ok (.aload_n 0, 1) := by decide +kernel
theorem dX3_copyFrom_41 : decode cX3_copyFrom 41 = .ok (.aload_n 1, 1) := by decide +kernel
theorem dX3_copyFrom_42 : decode cX3_copyFrom 42 = .ok (.getfield 27, 3) := by decide +kernel
theorem dX3_copyFrom_45 : decode cX3_copyFrom 45 = .ok (.putfield 27, 3) := by decide +kernel
theorem dX3_copyFrom_48 : decode cX3_copyFrom 48 = .ok (.return_, 1) := by decide +kernel
theorem dX3_forget_0 : decode cX3_forget 0 = .ok (.aload_n 0, 1) := by decide +kernel
theorem dX3_forget_1 : decode cX3_forget 1 = .ok (.iconst 0, 1) := by decide +kernel
theorem dX3_forget_2 : decode cX3_forget 2 = .ok (.putfield 9, 3) := by decide +kernel
theorem dX3_forget_5 : decode cX3_forget 5 = .ok (.aload_n 0, 1) := by decide +kernel
theorem dX3_forget_6 : decode cX3_forget 6 = .ok (.iconst 0, 1) := by decide +kernel
theorem dX3_forget_7 : decode cX3_forget 7 = .ok (.putfield 15, 3) := by decide +kernel
theorem dX3_forget_10 : decode cX3_forget 10 = .ok (.aload_n 0, 1) := by decide +kernel
theorem dX3_forget_11 : decode cX3_forget 11 = .ok (.iconst 0, 1) := by decide +kernel
theorem dX3_forget_12 : decode cX3_forget 12 = .ok (.putfield 18, 3) := by decide +kernel
theorem dX3_forget_15 : decode cX3_forget 15 = .ok (.aload_n 0, 1) := by decide +kernel
theorem dX3_forget_16 : decode cX3_forget 16 = .ok (.iconst 0, 1) := by decide +kernel
theorem dX3_forget_17 : decode cX3_forget 17 = .ok (.putfield 21, 3) := by decide +kernel
theorem dX3_forget_20 : decode cX3_forget 20 = .ok (.aload_n 0, 1) := by decide +kernel
theorem dX3_forget_21 : decode cX3_forget 21 = .ok (.iconst 0, 1) := by decide +kernel
theorem dX3_forget_22 : decode cX3_forget 22 = .ok (.putfield 24, 3) := by decide +kernel
theorem dX3_forget_25 : decode cX3_forget 25 = .ok (.aload_n 0, 1) := by decide +kernel
theorem dX3_forget_26 : decode cX3_forget 26 = .ok (.iconst 0, 1) := by decide +kernel
theorem dX3_forget_27 : decode cX3_forget 27 = .ok (.putfield 27, 3) := by decide +kernel
theorem dX3_forget_30 : decode cX3_forget 30 = .ok (.return_, 1) := by decide +kernel
theorem dX3_recall_0 : decode cX3_recall 0 = .ok (.aload_n 0, 1) := by decide +kernel
theorem dX3_recall_1 : decode cX3_recall 1 = .ok (.aload_n 1, 1) := by decide +kernel
theorem dX3_recall_2 : decode cX3_recall 2 = .ok (.invokevirtual 30, 3) := by decide +kernel
theorem dX3_recall_5 : decode cX3_recall 5 = .ok (.putfield 9, 3) := by decide +kernel
theorem dX3_recall_8 : decode cX3_recall 8 = .ok (.aload_n 0, 1) := by decide +kernel
theorem dX3_recall_9 : decode cX3_recall 9 = .ok (.aload_n 1, 1) := by decide +kernel
theorem dX3_recall_10 : decode cX3_recall 10 = .ok (.aload_n 0, 1) := by decide +kernel
theorem dX3_recall_11 : decode cX3_recall 11 = .ok (.getfield 9, 3) := by decide +kernel
theorem dX3_recall_14 : decode cX3_recall 14 = .ok (.invokevirtual 36, 3) := by decide +kernel
theorem dX3_recall_17 : decode cX3_recall 17 = .ok (.putfield 15, 3) := by decide +kernel
theorem dX3_recall_20 : decode cX3_recall 20 = .ok (.aload_n 0, 1) := by decide +kernel
theorem dX3_recall_21 : decode cX3_recall 21 = .ok (.aload_n 1, 1) := by decide +kernel
theorem dX3_recall_22 : decode cX3_recall 22 = .ok (.aload_n 0, 1) := by decide +kernel
theorem dX3_recall_23 : decode cX3_recall 23 = .ok (.getfield 9, 3) := by decide +kernel
theorem dX3_recall_26 : decode cX3_recall 26 = .ok (.iconst 1, 1) := by decide +kernel
theorem dX3_recall_27 : decode cX3_recall 27 = .ok (.invokevirtual 40, 3) := by decide +kernel
theorem dX3_recall_30 : decode cX3_recall 30 = .ok (.putfield 21, 3) := by decide +kernel
theorem dX3_recall_33 : decode cX3_recall 33 = .ok (.aload_n 0, 1) := by decide +kernel
theorem dX3_recall_34 : decode cX3_recall 34 = .ok (.aload_n 1, 1) := by decide +kernel
theorem dX3_recall_35 : decode cX3_recall 35 = .ok (.aload_n 0, 1) := by decide +kernel
theorem dX3_recall_36 : decode cX3_recall 36 = .ok (.getfield 9, 3) := by decide +kernel
theorem dX3_recall_39 : decode cX3_recall 39 = .ok (.iconst 2, 1) := by decide +kernel
theorem dX3_recall_40 : decode cX3_recall 40 = .ok (.invokevirtual 40, 3) := by decide +kernel
theorem dX3_recall_43 : decode cX3_recall 43 = .ok (.putfield 24, 3) := by decide +kernel
theorem dX3_recall_46 : decode cX3_recall 46 = .ok (.aload_n 0, 1) := by decide +kernel
theorem dX3_recall_47 : decode cX3_recall 47 = .ok (.aload_n 1, 1) := by decide +kernel
theorem dX3_recall_48 : decode cX3_recall 48 = .ok (.aload_n 0, 1) := by decide +kernel
theorem dX3_recall_49 : decode cX3_recall 49 = .ok (.getfield 9, 3) := by decide +kernel
theorem dX3_recall_52 : decode cX3_recall 52 = .ok (.iconst 3, 1) := by decide +kernel
theorem dX3_recall_53 : decode cX3_recall 53 = .ok (.invokevirtual 40, 3) := by decide +kernel
theorem dX3_recall_56 : decode cX3_recall 56 = .ok (.putfield 27, 3) := by decide +kernel
theorem dX3_recall_59 : decode cX3_recall 59 = .ok (.aload_n 0, 1) := by decide +kernel
theorem dX3_recall_60 : decode cX3_recall 60 = .ok (.aload_n 1, 1) := by decide +kernel
theorem dX3_recall_61 : decode cX3_recall 61 = .ok (.aload_n 0, 1) := by decide +kernel
theorem dX3_recall_62 : decode cX3_recall 62 = .ok (.getfield 9, 3) := by decide +kernel
theorem dX3_recall_65 : decode cX3_recall 65 = .ok (.iconst 4, 1) := by decide +kernel
theorem dX3_recall_66 : decode cX3_recall 66 = .ok (.invokevirtual 40, 3) := by decide +kernel
theorem dX3_recall_69 : decode cX3_recall 69 = .ok (.putfield 18, 3) := by decide +kernel
theorem dX3_recall_72 : decode cX3_recall 72 = .ok (.iconst 0, 1) := by decide +kernel
theorem dX3_recall_73 : decode cX3_recall 73 = .ok (.istore_n 2, 1) := by decide +kernel
theorem dX3_recall_74 : decode cX3_recall 74 = .ok (.iload_n 2, 1) := by decide +kernel
theorem dX3_recall_75 : decode cX3_recall 75 = .ok (.iconst 4, 1) := by decide +kernel
theorem dX3_recall_76 : decode cX3_recall 76 = .ok (.if_icmp .ge 46, 3) := by decide +kernel
theorem dX3_recall_79 : decode cX3_recall 79 = .ok (.aload_n 1, 1) := by decide +kernel
theorem dX3_recall_80 : decode cX3_recall 80 = .ok (.aload_n 0, 1) := by decide +kernel
theorem dX3_recall_81 : decode cX3_recall 81 = .ok (.getfield 9, 3) := by decide +kernel
theorem dX3_recall_84 : decode cX3_recall 84 = .ok (.iload_n 2, 1) := by decide +kernel
theorem dX3_recall_85 : decode cX3_recall 85 = .ok (.invokevirtual 44, 3) := by decide +kernel
theorem dX3_recall_88 : decode cX3_recall 88 = .ok (.iconst 1, 1) := by decide +kernel
theorem dX3_recall_89 : decode cX3_recall 89 = .ok (.if_icmp .ne 27, 3) := by decide +kernel
theorem dX3_recall_92 : decode cX3_recall 92 = .ok (.aload_n 0, 1) := by decide +kernel
theorem dX3_recall_93 : decode cX3_recall 93 = .ok (.aload_n 1, 1) := by decide +kernel
theorem dX3_recall_94 : decode cX3_recall 94 = .ok (.aload_n 0, 1) := by decide +kernel
theorem dX3_recall_95 : decode cX3_recall 95 = .ok (.getfield 9, 3) := by decide +kernel
theorem dX3_recall_98 : decode cX3_recall 98 = .ok (.iload_n 2, 1) := by decide +kernel
theorem dX3_recall_99 : decode cX3_recall 99 = .ok (.iconst 0, 1) := by decide +kernel
theorem dX3_recall_100 : decode cX3_recall 100 = .ok (.invokevirtual 47, 3) := by decide +kernel
theorem dX3_recall_103 : decode cX3_recall 103 = .ok (.aload_n 1, 1) := by decide +kernel
theorem dX3_recall_104 : decode cX3_recall 104 = .ok (.aload_n 0, 1) := by decide +kernel
theorem dX3_recall_105 : decode cX3_recall 105 = .ok (.getfield 9, 3) := by decide +kernel
theorem dX3_recall_108 : decode cX3_recall 108 = .ok (.iload_n 2, 1) := by decide +kernel
theorem dX3_recall_109 : decode cX3_recall 109 = .ok (.iconst 2, 1) := by decide +kernel
theorem dX3_recall_110 : decode cX3_recall 110 = .ok (.invokevirtual 47, 3) := by decide +kernel
theorem dX3_recall_113 : decode cX3_recall 113 = .ok (.invokevirtual 51, 3) := by decide +kernel
theorem dX3_recall_116 : decode cX3_recall 116 = .ok (.iinc 2 1, 3) := by decide +kernel
theorem dX3_recall_119 : decode cX3_recall 119 = .ok (.goto (-45), 3) := by decide +kernel
theorem dX3_recall_122 : decode cX3_recall 122 = .ok (.return_, 1) := by decide +kernel
theorem dX3_learn_0 : decode cX3_learn 0 = .ok (.aload_n 0, 1) := by decide +kernel
theorem dX3_learn_1 : decode cX3_learn 1 = .ok (.iload_n 1, 1) := by decide +kernel
theorem dX3_learn_2 : decode cX3_learn 2 = .ok (.sipush 10000, 3) := by decide +kernel
theorem dX3_learn_5 : decode cX3_learn 5 = .ok (.irem, 1) := by decide +kernel
theorem dX3_learn_6 : decode cX3_learn 6 = .ok (.iconst 1, 1) := by decide +kernel
theorem dX3_learn_7 : decode cX3_learn 7 = .ok (.iadd, 1) := by decide +kernel
theorem dX3_learn_8 : decode cX3_learn 8 = .ok (.sipush 10000, 3) := by decide +kernel
theorem dX3_learn_11 : decode cX3_learn 11 = .ok (.irem, 1) := by decide +kernel
theorem dX3_learn_12 : decode cX3_learn 12 = .ok (.putfield 18, 3) := by decide +kernel
theorem dX3_learn_15 : decode cX3_learn 15 = .ok (.iload_n 2, 1) := by decide +kernel
theorem dX3_learn_16 : decode cX3_learn 16 = .ok (.sipush 1000, 3) := by decide +kernel
theorem dX3_learn_19 : decode cX3_learn 19 = .ok (.irem, 1) := by decide +kernel
theorem dX3_learn_20 : decode cX3_learn 20 = .ok (.istore_n 3, 1) := by decide +kernel
theorem dX3_learn_21 : decode cX3_learn 21 = .ok (.iload_n 1, 1) := by decide +kernel
theorem dX3_learn_22 : decode cX3_learn 22 = .ok (.sipush 10000, 3) := by decide +kernel
theorem dX3_learn_25 : decode cX3_learn 25 = .ok (.idiv, 1) := by decide +kernel
theorem dX3_learn_26 : decode cX3_learn 26 = .ok (.tableswitch 118 0 4 #[34, 74, 118, 97, 110], 34) := by decide +kernel
theorem dX3_learn_60 : decode cX3_learn 60 = .ok (.aload_n 0, 1) := by decide +kernel
theorem dX3_learn_61 : decode cX3_learn 61 = .ok (.dup, 1) := by decide +kernel
theorem dX3_learn_62 : decode cX3_learn 62 = .ok (.getfield 21, 3) := by decide +kernel
theorem dX3_learn_65 : decode cX3_learn 65 = .ok (.iload_n 3, 1) := by decide +kernel
theorem dX3_learn_66 : decode cX3_learn 66 = .ok (.iadd, 1) := by decide +kernel
theorem dX3_learn_67 : decode cX3_learn 67 = .ok (.putfield 21, 3) := by decide +kernel
theorem dX3_learn_70 : decode cX3_learn 70 = .ok (.aload_n 0, 1) := by decide +kernel
theorem dX3_learn_71 : decode cX3_learn 71 = .ok (.dup, 1) := by decide +kernel
theorem dX3_learn_72 : decode cX3_learn 72 = .ok (.getfield 24, 3) := by decide +kernel
theorem dX3_learn_75 : decode cX3_learn 75 = .ok (.iconst 1, 1) := by decide +kernel
theorem dX3_learn_76 : decode cX3_learn 76 = .ok (.iadd, 1) := by decide +kernel
theorem dX3_learn_77 : decode cX3_learn 77 = .ok (.putfield 24, 3) := by decide +kernel
theorem dX3_learn_80 : decode cX3_learn 80 = .ok (.aload_n 0, 1) := by decide +kernel
theorem dX3_learn_81 : decode cX3_learn 81 = .ok (.dup, 1) := by decide +kernel
theorem dX3_learn_82 : decode cX3_learn 82 = .ok (.getfield 27, 3) := by decide +kernel
theorem dX3_learn_85 : decode cX3_learn 85 = .ok (.iload_n 2, 1) := by decide +kernel
theorem dX3_learn_86 : decode cX3_learn 86 = .ok (.sipush 1000, 3) := by decide +kernel
theorem dX3_learn_89 : decode cX3_learn 89 = .ok (.idiv, 1) := by decide +kernel
theorem dX3_learn_90 : decode cX3_learn 90 = .ok (.invokestatic 55, 3) := by decide +kernel
theorem dX3_learn_93 : decode cX3_learn 93 = .ok (.isub, 1) := by decide +kernel
theorem dX3_learn_94 : decode cX3_learn 94 = .ok (.putfield 27, 3) := by decide +kernel
theorem dX3_learn_97 : decode cX3_learn 97 = .ok (.goto 47, 3) := by decide +kernel
theorem dX3_learn_100 : decode cX3_learn 100 = .ok (.aload_n 0, 1) := by decide +kernel
theorem dX3_learn_101 : decode cX3_learn 101 = .ok (.dup, 1) := by decide +kernel
theorem dX3_learn_102 : decode cX3_learn 102 = .ok (.getfield 21, 3) := by decide +kernel
theorem dX3_learn_105 : decode cX3_learn 105 = .ok (.iload_n 3, 1) := by decide +kernel
theorem dX3_learn_106 : decode cX3_learn 106 = .ok (.isub, 1) := by decide +kernel
theorem dX3_learn_107 : decode cX3_learn 107 = .ok (.putfield 21, 3) := by decide +kernel
theorem dX3_learn_110 : decode cX3_learn 110 = .ok (.aload_n 0, 1) := by decide +kernel
theorem dX3_learn_111 : decode cX3_learn 111 = .ok (.dup, 1) := by decide +kernel
theorem dX3_learn_112 : decode cX3_learn 112 = .ok (.getfield 24, 3) := by decide +kernel
theorem dX3_learn_115 : decode cX3_learn 115 = .ok (.iconst 1, 1) := by decide +kernel
theorem dX3_learn_116 : decode cX3_learn 116 = .ok (.isub, 1) := by decide +kernel
theorem dX3_learn_117 : decode cX3_learn 117 = .ok (.putfield 24, 3) := by decide +kernel
theorem dX3_learn_120 : decode cX3_learn 120 = .ok (.goto 24, 3) := by decide +kernel
theorem dX3_learn_123 : decode cX3_learn 123 = .ok (.aload_n 0, 1) := by decide +kernel
theorem dX3_learn_124 : decode cX3_learn 124 = .ok (.iconst 0, 1) := by decide +kernel
theorem dX3_learn_125 : decode cX3_learn 125 = .ok (.putfield 21, 3) := by decide +kernel
theorem dX3_learn_128 : decode cX3_learn 128 = .ok (.aload_n 0, 1) := by decide +kernel
theorem dX3_learn_129 : decode cX3_learn 129 = .ok (.iconst 0, 1) := by decide +kernel
theorem dX3_learn_130 : decode cX3_learn 130 = .ok (.putfield 24, 3) := by decide +kernel
theorem dX3_learn_133 : decode cX3_learn 133 = .ok (.goto 11, 3) := by decide +kernel
theorem dX3_learn_136 : decode cX3_learn 136 = .ok (.aload_n 0, 1) := by decide +kernel
theorem dX3_learn_137 : decode cX3_learn 137 = .ok (.iload_n 2, 1) := by decide +kernel
theorem dX3_learn_138 : decode cX3_learn 138 = .ok (.putfield 27, 3) := by decide +kernel
theorem dX3_learn_141 : decode cX3_learn 141 = .ok (.goto 3, 3) := by decide +kernel
theorem dX3_learn_144 : decode cX3_learn 144 = .ok (.return_, 1) := by decide +kernel
theorem dX4_init_0 : decode cX4_init 0 = .ok (.aload_n 0, 1) := by decide +kernel
theorem dX4_init_1 : decode cX4_init 1 = .ok (.invokespecial 3, 3) := by decide +kernel
theorem dX4_init_4 : decode cX4_init 4 = .ok (.aload_n 0, 1) := by decide +kernel
theorem dX4_init_5 : decode cX4_init 5 = .ok (.bipush 8, 2) := by decide +kernel
theorem dX4_init_7 : decode cX4_init 7 = .ok (.anewarray 9, 3) := by decide +kernel
theorem dX4_init_10 : decode cX4_init 10 = .ok (.putfield 11, 3) := by decide +kernel
theorem dX4_init_13 : decode cX4_init 13 = .ok (.aload_n 0, 1) := by decide +kernel
theorem dX4_init_14 : decode cX4_init 14 = .ok (.iconst 0, 1) := by decide +kernel
theorem dX4_init_15 : decode cX4_init 15 = .ok (.putfield 17, 3) := by decide +kernel
theorem dX4_init_18 : decode cX4_init 18 = .ok (.aload_n 0, 1) := by decide +kernel
theorem dX4_init_19 : decode cX4_init 19 = .ok (.iconst 0, 1) := by decide +kernel
theorem dX4_init_20 : decode cX4_init 20 = .ok (.putfield 21, 3) := by decide +kernel
theorem dX4_init_23 : decode cX4_init 23 = .ok (.iconst 0, 1) := by decide +kernel
theorem dX4_init_24 : decode cX4_init 24 = .ok (.istore_n 1, 1) := by decide +kernel
theorem dX4_init_25 : decode cX4_init 25 = .ok (.iload_n 1, 1) := by decide +kernel
theorem dX4_init_26 : decode cX4_init 26 = .ok (.aload_n 0, 1) := by decide +kernel
theorem dX4_init_27 : decode cX4_init 27 = .ok (.getfield 11, 3) := by decide +kernel
theorem dX4_init_30 : decode cX4_init 30 = .ok (.arraylength, 1) := by decide +kernel
theorem dX4_init_31 : decode cX4_init 31 = .ok (.if_icmp .ge 22, 3) := by decide +kernel
theorem dX4_init_34 : decode cX4_init 34 = .ok (.aload_n 0, 1) := by decide +kernel
theorem dX4_init_35 : decode cX4_init 35 = .ok (.getfield 11, 3) := by decide +kernel
theorem dX4_init_38 : decode cX4_init 38 = .ok (.iload_n 1, 1) := by decide +kernel
theorem dX4_init_39 : decode cX4_init 39 = .ok (.new 9, 3) := by decide +kernel
theorem dX4_init_42 : decode cX4_init 42 = .ok (.dup, 1) := by decide +kernel
theorem dX4_init_43 : decode cX4_init 43 = .ok (.invokespecial 24, 3) := by decide +kernel
theorem dX4_init_46 : decode cX4_init 46 = .ok (.aastore, 1) := by decide +kernel
theorem dX4_init_47 : decode cX4_init 47 = .ok (.iinc 1 1, 3) := by decide +kernel
theorem dX4_init_50 : decode cX4_init 50 = .ok (.goto (-25), 3) := by decide +kernel
theorem dX4_init_53 : decode cX4_init 53 = .ok (.return_, 1) := by decide +kernel
theorem dX4_remember_0 : decode cX4_remember 0 = .ok (.aload_n 0, 1) := by decide +kernel
theorem dX4_remember_1 : decode cX4_remember 1 = .ok (.getfield 21, 3) := by decide +kernel
theorem dX4_remember_4 : decode cX4_remember 4 = .ok (.bipush 8, 2) := by decide +kernel
theorem dX4_remember_6 : decode cX4_remember 6 = .ok (.if_icmp .ne 26, 3) := by decide +kernel
theorem dX4_remember_9 : decode cX4_remember 9 = .ok (.aload_n 0, 1) := by decide +kernel
theorem dX4_remember_10 : decode cX4_remember 10 = .ok (.aload_n 0, 1) := by decide +kernel
theorem dX4_remember_11 : decode cX4_remember 11 = .ok (.getfield 17, 3) := by decide +kernel
theorem dX4_remember_14 : decode cX4_remember 14 = .ok (.iconst 1, 1) := by decide +kernel
theorem dX4_remember_15 : decode cX4_remember 15 = .ok (.iadd, 1) := by decide +kernel
theorem dX4_remember_16 : decode cX4_remember 16 = .ok (.bipush 8, 2) := by decide +kernel
theorem dX4_remember_18 : decode cX4_remember 18 = .ok (.irem, 1) := by decide +kernel
theorem dX4_remember_19 : decode cX4_remember 19 = .ok (.putfield 17, 3) := by decide +kernel
theorem dX4_remember_22 : decode cX4_remember 22 = .ok (.aload_n 0, 1) := by decide +kernel
theorem dX4_remember_23 : decode cX4_remember 23 = .ok (.dup, 1) := by decide +kernel
theorem dX4_remember_24 : decode cX4_remember 24 = .ok (.getfield 21, 3) := by decide +kernel
theorem dX4_remember_27 : decode cX4_remember 27 = .ok (.iconst 1, 1) := by decide +kernel
theorem dX4_remember_28 : decode cX4_remember 28 = .ok (.isub, 1) := by decide +kernel
theorem dX4_remember_29 : decode cX4_remember 29 = .ok (.putfield 21, 3) := by decide +kernel
theorem dX4_remember_32 : decode cX4_remember 32 = .ok (.aload_n 0, 1) := by decide +kernel
theorem dX4_remember_33 : decode cX4_remember 33 = .ok (.aload_n 0, 1) := by decide +kernel
theorem dX4_remember_34 : decode cX4_remember 34 = .ok (.getfield 17, 3) := by decide +kernel
theorem dX4_remember_37 : decode cX4_remember 37 = .ok (.aload_n 0, 1) := by decide +kernel
theorem dX4_remember_38 : decode cX4_remember 38 = .ok (.getfield 21, 3) := by decide +kernel
theorem dX4_remember_41 : decode cX4_remember 41 = .ok (.iadd, 1) := by decide +kernel
theorem dX4_remember_42 : decode cX4_remember 42 = .ok (.invokevirtual 25, 3) := by decide +kernel
theorem dX4_remember_45 : decode cX4_remember 45 = .ok (.astore_n 2, 1) := by decide +kernel
theorem dX4_remember_46 : decode cX4_remember 46 = .ok (.aload_n 2, 1) := by decide +kernel
theorem dX4_remember_47 : decode cX4_remember 47 = .ok (.ifnull 18, 3) := by decide +kernel
theorem dX4_remember_50 : decode cX4_remember 50 = .ok (.aload_n 2, 1) := by decide +kernel
theorem dX4_remember_51 : decode cX4_remember 51 = .ok (.aload_n 1, 1) := by decide +kernel
theorem dX4_remember_52 : decode cX4_remember 52 = .ok (.invokevirtual 29, 3) := by decide +kernel
theorem dX4_remember_55 : decode cX4_remember 55 = .ok (.aload_n 0, 1) := by decide +kernel
theorem dX4_remember_56 : decode cX4_remember 56 = .ok (.dup, 1) := by decide +kernel
theorem dX4_remember_57 : decode cX4_remember 57 = .ok (.getfield 21, 3) := by decide +kernel
theorem dX4_remember_60 : decode cX4_remember 60 = .ok (.iconst 1, 1) := by decide +kernel
theorem dX4_remember_61 : decode cX4_remember 61 = .ok (.iadd, 1) := by decide +kernel
theorem dX4_remember_62 : decode cX4_remember 62 = .ok (.putfield 21, 3) := by decide +kernel
theorem dX4_remember_65 : decode cX4_remember 65 = .ok (.return_, 1) := by decide +kernel
theorem dX4_restore_0 : decode cX4_restore 0 = .ok (.aload_n 0, 1) := by decide +kernel
theorem dX4_restore_1 : decode cX4_restore 1 = .ok (.getfield 21, 3) := by decide +kernel
theorem dX4_restore_4 : decode cX4_restore 4 = .ok (.ifCond .le 21, 3) := by decide +kernel
theorem dX4_restore_7 : decode cX4_restore 7 = .ok (.aload_n 0, 1) := by decide +kernel
theorem dX4_restore_8 : decode cX4_restore 8 = .ok (.aload_n 0, 1) := by decide +kernel
theorem dX4_restore_9 : decode cX4_restore 9 = .ok (.getfield 17, 3) := by decide +kernel
theorem dX4_restore_12 : decode cX4_restore 12 = .ok (.aload_n 0, 1) := by decide +kernel
theorem dX4_restore_13 : decode cX4_restore 13 = .ok (.getfield 21, 3) := by decide +kernel
theorem dX4_restore_16 : decode cX4_restore 16 = .ok (.iadd, 1) := by decide +kernel
theorem dX4_restore_17 : decode cX4_restore 17 = .ok (.iconst 1, 1) := by decide +kernel
theorem dX4_restore_18 : decode cX4_restore 18 = .ok (.isub, 1) := by decide +kernel
theorem dX4_restore_19 : decode cX4_restore 19 = .ok (.invokevirtual 25, 3) := by decide +kernel
theorem dX4_restore_22 : decode cX4_restore 22 = .ok (.goto 4, 3) := by decide +kernel
theorem dX4_restore_25 : decode cX4_restore 25 = .ok (.aconst_null, 1) := by decide +kernel
theorem dX4_restore_26 : decode cX4_restore 26 = .ok (.astore_n 2, 1) := by decide +kernel
theorem dX4_restore_27 : decode cX4_restore 27 = .ok (.aload_n 2, 1) := by decide +kernel
theorem dX4_restore_28 : decode cX4_restore 28 = .ok (.ifnull 18, 3) := by decide +kernel
theorem dX4_restore_31 : decode cX4_restore 31 = .ok (.aload_n 1, 1) := by decide +kernel
theorem dX4_restore_32 : decode cX4_restore 32 = .ok (.aload_n 2, 1) := by decide +kernel
theorem dX4_restore_33 : decode cX4_restore 33 = .ok (.invokevirtual 29, 3) := by decide +kernel
theorem dX4_restore_36 : decode cX4_restore 36 = .ok (.aload_n 0, 1) := by decide +kernel
theorem dX4_restore_37 : decode cX4_restore 37 = .ok (.dup, 1) := by decide +kernel
theorem dX4_restore_38 : decode cX4_restore 38 = .ok (.getfield 21, 3) := by decide +kernel
theorem dX4_restore_41 : decode cX4_restore 41 = .ok (.iconst 1, 1) := by decide +kernel
theorem dX4_restore_42 : decode cX4_restore 42 = .ok (.isub, 1) := by decide +kernel
theorem dX4_restore_43 : decode cX4_restore 43 = .ok (.putfield 21, 3) := by decide +kernel
theorem dX4_restore_46 : decode cX4_restore 46 = .ok (.return_, 1) := by decide +kernel
theorem dX4_stateAt_0 : decode cX4_stateAt 0 = .ok (.iload_n 1, 1) := by decide +kernel
theorem dX4_stateAt_1 : decode cX4_stateAt 1 = .ok (.bipush 8, 2) := by decide +kernel
theorem dX4_stateAt_3 : decode cX4_stateAt 3 = .ok (.irem, 1) := by decide +kernel
theorem dX4_stateAt_4 : decode cX4_stateAt 4 = .ok (.istore_n 2, 1) := by decide +kernel
theorem dX4_stateAt_5 : decode cX4_stateAt 5 = .ok (.iload_n 2, 1) := by decide +kernel
theorem dX4_stateAt_6 : decode cX4_stateAt 6 = .ok (.ifCond .lt 21, 3) := by decide +kernel
theorem dX4_stateAt_9 : decode cX4_stateAt 9 = .ok (.iload_n 2, 1) := by decide +kernel
theorem dX4_stateAt_10 : decode cX4_stateAt 10 = .ok (.aload_n 0, 1) := by decide +kernel
theorem dX4_stateAt_11 : decode cX4_stateAt 11 = .ok (.getfield 11, 3) := by decide +kernel
theorem dX4_stateAt_14 : decode cX4_stateAt 14 = .ok (.arraylength, 1) := by decide +kernel
theorem dX4_stateAt_15 : decode cX4_stateAt 15 = .ok (.if_icmp .ge 12, 3) := by decide +kernel
theorem dX4_stateAt_18 : decode cX4_stateAt 18 = .ok (.aload_n 0, 1) := by decide +kernel
theorem dX4_stateAt_19 : decode cX4_stateAt 19 = .ok (.getfield 11, 3) := by decide +kernel
theorem dX4_stateAt_22 : decode cX4_stateAt 22 = .ok (.iload_n 2, 1) := by decide +kernel
theorem dX4_stateAt_23 : decode cX4_stateAt 23 = .ok (.aaload, 1) := by decide +kernel
theorem dX4_stateAt_24 : decode cX4_stateAt 24 = .ok (.goto 4, 3) := by decide +kernel
theorem dX4_stateAt_27 : decode cX4_stateAt 27 = .ok (.aconst_null, 1) := by decide +kernel
theorem dX4_stateAt_28 : decode cX4_stateAt 28 = .ok (.areturn, 1) := by decide +kernel
theorem dX5_init_0 : decode cX5_init 0 = .ok (.aload_n 0, 1) := by decide +kernel
theorem dX5_init_1 : decode cX5_init 1 = .ok (.invokespecial 3, 3) := by decide +kernel
theorem dX5_init_4 : decode cX5_init 4 = .ok (.aload_n 0, 1) := by decide +kernel
theorem dX5_init_5 : decode cX5_init 5 = .ok (.new 9, 3) := by decide +kernel
theorem dX5_init_8 : decode cX5_init 8 = .ok (.dup, 1) := by decide +kernel
theorem dX5_init_9 : decode cX5_init 9 = .ok (.invokespecial 11, 3) := by decide +kernel
theorem dX5_init_12 : decode cX5_init 12 = .ok (.putfield 12, 3) := by decide +kernel
theorem dX5_init_15 : decode cX5_init 15 = .ok (.aload_n 0, 1) := by decide +kernel
theorem dX5_init_16 : decode cX5_init 16 = .ok (.new 18, 3) := by decide +kernel
theorem dX5_init_19 : decode cX5_init 19 = .ok (.dup, 1) := by decide +kernel
theorem dX5_init_20 : decode cX5_init 20 = .ok (.invokespecial 20, 3) := by decide +kernel
theorem dX5_init_23 : decode cX5_init 23 = .ok (.putfield 21, 3) := by decide +kernel
theorem dX5_init_26 : decode cX5_init 26 = .ok (.aload_n 0, 1) := by decide +kernel
theorem dX5_init_27 : decode cX5_init 27 = .ok (.iconst 4, 1) := by decide +kernel
theorem dX5_init_28 : decode cX5_init 28 = .ok (.newarray .int, 2) := by decide +kernel
theorem dX5_init_30 : decode cX5_init 30 = .ok (.dup, 1) := by decide +kernel
theorem dX5_init_31 : decode cX5_init 31 = .ok (.iconst 0, 1) := by decide +kernel
theorem dX5_init_32 : decode cX5_init 32 = .ok (.sipush 150, 3) := by decide +kernel
theorem dX5_init_35 : decode cX5_init 35 = .ok (.iastore, 1) := by decide +kernel
theorem dX5_init_36 : decode cX5_init 36 = .ok (.dup, 1) := by decide +kernel
theorem dX5_init_37 : decode cX5_init 37 = .ok (.iconst 1, 1) := by decide +kernel
theorem dX5_init_38 : decode cX5_init 38 = .ok (.sipush 250, 3) := by decide +kernel
theorem dX5_init_41 : decode cX5_init 41 = .ok (.iastore, 1) := by decide +kernel
theorem dX5_init_42 : decode cX5_init 42 = .ok (.dup, 1) := by decide +kernel
theorem dX5_init_43 : decode cX5_init 43 = .ok (.iconst 2, 1) := by decide +kernel
theorem dX5_init_44 : decode cX5_init 44 = .ok (.sipush 400, 3) := by decide +kernel
theorem dX5_init_47 : decode cX5_init 47 = .ok (.iastore, 1) := by decide +kernel
theorem dX5_init_48 : decode cX5_init 48 = .ok (.dup, 1) := by decide +kernel
theorem dX5_init_49 : decode cX5_init 49 = .ok (.iconst 3, 1) := by decide +kernel
theorem dX5_init_50 : decode cX5_init 50 = .ok (.sipush 800, 3) := by decide +kernel
theorem dX5_init_53 : decode cX5_init 53 = .ok (.iastore, 1) := by decide +kernel
theorem dX5_init_54 : decode cX5_init 54 = .ok (.putfield 25, 3) := by decide +kernel
theorem dX5_init_57 : decode cX5_init 57 = .ok (.aload_n 0, 1) := by decide +kernel
theorem dX5_init_58 : decode cX5_init 58 = .ok (.iconst 1, 1) := by decide +kernel
theorem dX5_init_59 : decode cX5_init 59 = .ok (.putfield 29, 3) := by decide +kernel
theorem dX5_init_62 : decode cX5_init 62 = .ok (.aload_n 0, 1) := by decide +kernel
theorem dX5_init_63 : decode cX5_init 63 = .ok (.iconst 0, 1) := by decide +kernel
theorem dX5_init_64 : decode cX5_init 64 = .ok (.putfield 33, 3) := by decide +kernel
theorem dX5_init_67 : decode cX5_init 67 = .ok (.aload_n 0, 1) := by decide +kernel
theorem dX5_init_68 : decode cX5_init 68 = .ok (.iconst 0, 1) := by decide +kernel
theorem dX5_init_69 : decode cX5_init 69 = .ok (.putfield 37, 3) := by decide +kernel
theorem dX5_init_72 : decode cX5_init 72 = .ok (.aload_n 0, 1) := by decide +kernel
theorem dX5_init_73 : decode cX5_init 73 = .ok (.iconst 0, 1) := by decide +kernel
theorem dX5_init_74 : decode cX5_init 74 = .ok (.putfield 40, 3) := by decide +kernel
theorem dX5_init_77 : decode cX5_init 77 = .ok (.return_, 1) := by decide +kernel
theorem dX5_copyFrom_0 : decode cX5_copyFrom 0 = .ok (.aload_n 0, 1) := by decide +kernel
theorem dX5_copyFrom_1 : decode cX5_copyFrom 1 = .ok (.getfield 12, 3) := by decide +kernel
theorem dX5_copyFrom_4 : decode cX5_copyFrom 4 = .ok (.aload_n 1, 1) := by decide +kernel
theorem dX5_copyFrom_5 : decode cX5_copyFrom 5 = .ok (.getfield 12, 3) := by decide +kernel
theorem dX5_copyFrom_8 : decode cX5_copyFrom 8 = .ok (.invokevirtual 43, 3) := by decide +kernel
theorem dX5_copyFrom_11 : decode cX5_copyFrom 11 = .ok (.aload_n 0, 1) := by decide +kernel
theorem dX5_copyFrom_12 : decode cX5_copyFrom 12 = .ok (.getfield 21, 3) := by decide +kernel
theorem dX5_copyFrom_15 : decode cX5_copyFrom 15 = .ok (.aload_n 1, 1) := by decide +kernel
theorem dX5_copyFrom_16 : decode cX5_copyFrom 16 = .ok (.getfield 21, 3) := by decide +kernel
theorem dX5_copyFrom_19 : decode cX5_copyFrom 19 = .ok (.invokevirtual 47, 3) := by decide +kernel
theorem dX5_copyFrom_22 : decode cX5_copyFrom 22 = .ok (.aload_n 1, 1) := by decide +kernel
theorem dX5_copyFrom_23 : decode cX5_copyFrom 23 = .ok (.getfield 25, 3) := by decide +kernel
theorem dX5_copyFrom_26 : decode cX5_copyFrom 26 = .ok (.iconst 0, 1) := by decide +kernel
theorem dX5_copyFrom_27 : decode cX5_copyFrom 27 = .ok (.aload_n 0, 1) := by decide +kernel
theorem dX5_copyFrom_28 : decode cX5_copyFrom 28 = .ok (.getfield 25, 3) := by decide +kernel
theorem dX5_copyFrom_31 : decode cX5_copyFrom 31 = .ok (.iconst 0, 1) := by decide +kernel
theorem dX5_copyFrom_32 : decode cX5_copyFrom 32 = .ok (.iconst 4, 1) := by decide +kernel
theorem dX5_copyFrom_33 : decode cX5_copyFrom 33 = .ok (.invokestatic 50, 3) := by decide +kernel
theorem dX5_copyFrom_36 : decode cX5_copyFrom 36 = .ok (.aload_n 0, 1) := by decide +kernel
theorem dX5_copyFrom_37 : decode cX5_copyFrom 37 = .ok (.aload_n 1, 1) := by decide +kernel
theorem dX5_copyFrom_38 : decode cX5_copyFrom 38 = .ok (.getfield 29, 3) := by decide +kernel
theorem dX5_copyFrom_41 : decode cX5_copyFrom 41 = .ok (.putfield 29, 3) := by decide +kernel
theorem dX5_copyFrom_44 : decode cX5_copyFrom 44 = .ok (.aload_n 0, 1) := by decide +kernel
theorem dX5_copyFrom_45 : decode cX5_copyFrom 45 = .ok (.aload_n 1, 1) := by decide +kernel
theorem dX5_copyFrom_46 : decode cX5_copyFrom 46 = .ok (.getfield 33, 3) := by decide +kernel
theorem dX5_copyFrom_49 : decode cX5_copyFrom 49 = .ok (.putfield 33, 3) := by decide +kernel
theorem dX5_copyFrom_52 : decode cX5_copyFrom 52 = .ok (.aload_n 0, 1) := by decide +kernel
theorem dX5_copyFrom_53 : decode cX5_copyFrom 53 = .ok (.aload_n 1, 1) := by decide +kernel
theorem dX5_copyFrom_54 : decode cX5_copyFrom 54 = .ok (.getfield 37, 3) := by decide +kernel
theorem dX5_copyFrom_57 : decode cX5_copyFrom 57 = .ok (.putfield 37, 3) := by decide +kernel
theorem dX5_copyFrom_60 : decode cX5_copyFrom 60 = .ok (.aload_n 0, 1) := by decide +kernel
theorem dX5_copyFrom_61 : decode cX5_copyFrom 61 = .ok (.aload_n 1, 1) := by decide +kernel
theorem dX5_copyFrom_62 : decode cX5_copyFrom 62 = .ok (.getfield 40, 3) := by decide +kernel
theorem dX5_copyFrom_65 : decode cX5_copyFrom 65 = .ok (.putfield 40, 3) := by decide +kernel
theorem dX5_copyFrom_68 : decode cX5_copyFrom 68 = .ok (.return_, 1) := by decide +kernel
theorem dX5_priceOf_0 : decode cX5_priceOf 0 = .ok (.iload_n 1, 1) := by decide +kernel
theorem dX5_priceOf_1 : decode cX5_priceOf 1 = .ok (.ifCond .lt 21, 3) := by decide +kernel
theorem dX5_priceOf_4 : decode cX5_priceOf 4 = .ok (.iload_n 1, 1) := by decide +kernel
theorem dX5_priceOf_5 : decode cX5_priceOf 5 = .ok (.aload_n 0, 1) := by decide +kernel
theorem dX5_priceOf_6 : decode cX5_priceOf 6 = .ok (.getfield 25, 3) := by decide +kernel
theorem dX5_priceOf_9 : decode cX5_priceOf 9 = .ok (.arraylength, 1) := by decide +kernel
theorem dX5_priceOf_10 : decode cX5_priceOf 10 = .ok (.if_icmp .ge 12, 3) := by decide +kernel
theorem dX5_priceOf_13 : decode cX5_priceOf 13 = .ok (.aload_n 0, 1) := by decide +kernel
theorem dX5_priceOf_14 : decode cX5_priceOf 14 = .ok (.getfield 25, 3) := by decide +kernel
theorem dX5_priceOf_17 : decode cX5_priceOf 17 = .ok (.iload_n 1, 1) := by decide +kernel
theorem dX5_priceOf_18 : decode cX5_priceOf 18 = .ok (.iaload, 1) := by decide +kernel
theorem dX5_priceOf_19 : decode cX5_priceOf 19 = .ok (.goto 4, 3) := by decide +kernel
theorem dX5_priceOf_22 : decode cX5_priceOf 22 = .ok (.iconst 0, 1) := by decide +kernel
theorem dX5_priceOf_23 : decode cX5_priceOf 23 = .ok (.ireturn, 1) := by decide +kernel
theorem dX5_changePrice_0 : decode cX5_changePrice 0 = .ok (.iload_n 1, 1) := by decide +kernel
theorem dX5_changePrice_1 : decode cX5_changePrice 1 = .ok (.ifCond .lt 19, 3) := by decide +kernel
theorem dX5_changePrice_4 : decode cX5_changePrice 4 = .ok (.iload_n 1, 1) := by decide +kernel
theorem dX5_changePrice_5 : decode cX5_changePrice 5 = .ok (.aload_n 0, 1) := by decide +kernel
theorem dX5_changePrice_6 : decode cX5_changePrice 6 = .ok (.getfield 25, 3) := by decide +kernel
theorem dX5_changePrice_9 : decode cX5_changePrice 9 = .ok (.arraylength, 1) := by decide +kernel
theorem dX5_changePrice_10 : decode cX5_changePrice 10 = .ok (.if_icmp .ge 10, 3) := by decide +kernel
theorem dX5_changePrice_13 : decode cX5_changePrice 13 = .ok (.aload_n 0, 1) := by decide +kernel
theorem dX5_changePrice_14 : decode cX5_changePrice 14 = .ok (.getfield 25, 3) := by decide +kernel
theorem dX5_changePrice_17 : decode cX5_changePrice 17 = .ok (.iload_n 1, 1) := by decide +kernel
theorem dX5_changePrice_18 : decode cX5_changePrice 18 = .ok (.iload_n 2, 1) := by decide +kernel
theorem dX5_changePrice_19 : decode cX5_changePrice 19 = .ok (.iastore, 1) := by decide +kernel
theorem dX5_changePrice_20 : decode cX5_changePrice 20 = .ok (.return_, 1) := by decide +kernel
theorem dX5_refusalOf_0 : decode cX5_refusalOf 0 = .ok (.iload_n 1, 1) := by decide +kernel
theorem dX5_refusalOf_1 : decode cX5_refusalOf 1 = .ok (.invokestatic 56, 3) := by decide +kernel
theorem dX5_refusalOf_4 : decode cX5_refusalOf 4 = .ok (.ifCond .ne 5, 3) := by decide +kernel
theorem dX5_refusalOf_7 : decode cX5_refusalOf 7 = .ok (.iconst (-1), 1) := by decide +kernel
theorem dX5_refusalOf_8 : decode cX5_refusalOf 8 = .ok (.ireturn, 1) := by decide +kernel
theorem dX5_refusalOf_9 : decode cX5_refusalOf 9 = .ok (.aload_n 0, 1) := by decide +kernel
theorem dX5_refusalOf_10 : decode cX5_refusalOf 10 = .ok (.getfield 29, 3) := by decide +kernel
theorem dX5_refusalOf_13 : decode cX5_refusalOf 13 = .ok (.ifCond .eq 21, 3) := by decide +kernel
theorem dX5_refusalOf_16 : decode cX5_refusalOf 16 = .ok (.aload_n 0, 1) := by decide +kernel
theorem dX5_refusalOf_17 : decode cX5_refusalOf 17 = .ok (.getfield 21, 3) := by decide +kernel
theorem dX5_refusalOf_20 : decode cX5_refusalOf 20 = .ok (.getfield 60, 3) := by decide +kernel
theorem dX5_refusalOf_23 : decode cX5_refusalOf 23 = .ok (.aload_n 0, 1) := by decide +kernel
theorem dX5_refusalOf_24 : decode cX5_refusalOf 24 = .ok (.iload_n 1, 1) := by decide +kernel
theorem dX5_refusalOf_25 : decode cX5_refusalOf 25 = .ok (.invokevirtual 63, 3) := by decide +kernel
theorem dX5_refusalOf_28 : decode cX5_refusalOf 28 = .ok (.iadd, 1) := by decide +kernel
theorem dX5_refusalOf_29 : decode cX5_refusalOf 29 = .ok (.ldc 67, 2) := by decide +kernel
theorem dX5_refusalOf_31 : decode cX5_refusalOf 31 = .ok (.if_icmp .le 6, 3) := by decide +kernel
theorem dX5_refusalOf_34 : decode cX5_refusalOf 34 = .ok (.bipush (-2), 2) := by decide +kernel
theorem dX5_refusalOf_36 : decode cX5_refusalOf 36 = .ok (.ireturn, 1) := by decide +kernel
theorem dX5_refusalOf_37 : decode cX5_refusalOf 37 = .ok (.aload_n 0, 1) := by decide +kernel
theorem dX5_refusalOf_38 : decode cX5_refusalOf 38 = .ok (.getfield 21, 3) := by decide +kernel
theorem dX5_refusalOf_41 : decode cX5_refusalOf 41 = .ok (.getfield 68, 3) := by decide +kernel
theorem dX5_refusalOf_44 : decode cX5_refusalOf 44 = .ok (.iload_n 1, 1) := by decide +kernel
theorem dX5_refusalOf_45 : decode cX5_refusalOf 45 = .ok (.invokestatic 71, 3) := by decide +kernel
theorem dX5_refusalOf_48 : decode cX5_refusalOf 48 = .ok (.if_icmp .ge 8, 3) := by decide +kernel
theorem dX5_refusalOf_51 : decode cX5_refusalOf 51 = .ok (.bipush (-3), 2) := by decide +kernel
theorem dX5_refusalOf_53 : decode cX5_refusalOf 53 = .ok (.goto 4, 3) := by decide +kernel
theorem dX5_refusalOf_56 : decode cX5_refusalOf 56 = .ok (.iconst 0, 1) := by decide +kernel
theorem dX5_refusalOf_57 : decode cX5_refusalOf 57 = .ok (.ireturn, 1) := by decide +kernel
theorem dX5_issueTicket_0 : decode cX5_issueTicket 0 = .ok (.aload_n 0, 1) := by decide +kernel
theorem dX5_issueTicket_1 : decode cX5_issueTicket 1 = .ok (.getfield 21, 3) := by decide +kernel
theorem dX5_issueTicket_4 : decode cX5_issueTicket 4 = .ok (.getfield 74, 3) := by decide +kernel
theorem dX5_issueTicket_7 : decode cX5_issueTicket 7 = .ok (.istore_n 2, 1) := by decide +kernel
theorem dX5_issueTicket_8 : decode cX5_issueTicket 8 = .ok (.sipush 1000, 3) := by decide +kernel
theorem dX5_issueTicket_11 : decode cX5_issueTicket 11 = .ok (.iload_n 1, 1) := by decide +kernel
theorem dX5_issueTicket_12 : decode cX5_issueTicket 12 = .ok (.imul, 1) := by decide +kernel
theorem dX5_issueTicket_13 : decode cX5_issueTicket 13 = .ok (.aload_n 0, 1) := by decide +kernel
theorem dX5_issueTicket_14 : decode cX5_issueTicket 14 = .ok (.iload_n 1, 1) := by decide +kernel
theorem dX5_issueTicket_15 : decode cX5_issueTicket 15 = .ok (.invokevirtual 63, 3) := by decide +kernel
theorem dX5_issueTicket_18 : decode cX5_issueTicket 18 = .ok (.iadd, 1) := by decide +kernel
theorem dX5_issueTicket_19 : decode cX5_issueTicket 19 = .ok (.istore_n 3, 1) := by decide +kernel
theorem dX5_issueTicket_20 : decode cX5_issueTicket 20 = .ok (.aload_n 0, 1) := by decide +kernel
theorem dX5_issueTicket_21 : decode cX5_issueTicket 21 = .ok (.iconst 0, 1) := by decide +kernel
theorem dX5_issueTicket_22 : decode cX5_issueTicket 22 = .ok (.aload_n 0, 1) := by decide +kernel
theorem dX5_issueTicket_23 : decode cX5_issueTicket 23 = .ok (.getfield 33, 3) := by decide +kernel
theorem dX5_issueTicket_26 : decode cX5_issueTicket 26 = .ok (.iload_n 3, 1) := by decide +kernel
theorem dX5_issueTicket_27 : decode cX5_issueTicket 27 = .ok (.invokevirtual 77, 3) := by decide +kernel
theorem dX5_issueTicket_30 : decode cX5_issueTicket 30 = .ok (.ifCond .ne 6, 3) := by decide +kernel
theorem dX5_issueTicket_33 : decode cX5_issueTicket 33 = .ok (.bipush (-4), 2) := by decide +kernel
theorem dX5_issueTicket_35 : decode cX5_issueTicket 35 = .ok (.ireturn, 1) := by decide +kernel
theorem dX5_issueTicket_36 : decode cX5_issueTicket 36 = .ok (.aload_n 0, 1) := by decide +kernel
theorem dX5_issueTicket_37 : decode cX5_issueTicket 37 = .ok (.getfield 37, 3) := by decide +kernel
theorem dX5_issueTicket_40 : decode cX5_issueTicket 40 = .ok (.iload_n 1, 1) := by decide +kernel
theorem dX5_issueTicket_41 : decode cX5_issueTicket 41 = .ok (.invokestatic 71, 3) := by decide +kernel
theorem dX5_issueTicket_44 : decode cX5_issueTicket 44 = .ok (.if_icmp .lt 28, 3) := by decide +kernel
theorem dX5_issueTicket_47 : decode cX5_issueTicket 47 = .ok (.aload_n 0, 1) := by decide +kernel
theorem dX5_issueTicket_48 : decode cX5_issueTicket 48 = .ok (.dup, 1) := by decide +kernel
theorem dX5_issueTicket_49 : decode cX5_issueTicket 49 = .ok (.getfield 37, 3) := by decide +kernel
theorem dX5_issueTicket_52 : decode cX5_issueTicket 52 = .ok (.iload_n 1, 1) := by decide +kernel
theorem dX5_issueTicket_53 : decode cX5_issueTicket 53 = .ok (.invokestatic 71, 3) := by decide +kernel
theorem dX5_issueTicket_56 : decode cX5_issueTicket 56 = .ok (.isub, 1) := by decide +kernel
theorem dX5_issueTicket_57 : decode cX5_issueTicket 57 = .ok (.putfield 37, 3) := by decide +kernel
theorem dX5_issueTicket_60 : decode cX5_issueTicket 60 = .ok (.aload_n 0, 1) := by decide +kernel
theorem dX5_issueTicket_61 : decode cX5_issueTicket 61 = .ok (.dup, 1) := by decide +kernel
theorem dX5_issueTicket_62 : decode cX5_issueTicket 62 = .ok (.getfield 40, 3) := by decide +kernel
theorem dX5_issueTicket_65 : decode cX5_issueTicket 65 = .ok (.iconst 1, 1) := by decide +kernel
theorem dX5_issueTicket_66 : decode cX5_issueTicket 66 = .ok (.iadd, 1) := by decide +kernel
theorem dX5_issueTicket_67 : decode cX5_issueTicket 67 = .ok (.putfield 40, 3) := by decide +kernel
theorem dX5_issueTicket_70 : decode cX5_issueTicket 70 = .ok (.iload_n 2, 1) := by decide +kernel
theorem dX5_issueTicket_71 : decode cX5_issueTicket 71 = .ok (.ireturn, 1) := by decide +kernel
theorem dX5_issueTicket_72 : decode cX5_issueTicket 72 = .ok (.aload_n 0, 1) := by decide +kernel
theorem dX5_issueTicket_73 : decode cX5_issueTicket 73 = .ok (.iconst 0, 1) := by decide +kernel
theorem dX5_issueTicket_74 : decode cX5_issueTicket 74 = .ok (.putfield 37, 3) := by decide +kernel
theorem dX5_issueTicket_77 : decode cX5_issueTicket 77 = .ok (.aload_n 0, 1) := by decide +kernel
theorem dX5_issueTicket_78 : decode cX5_issueTicket 78 = .ok (.iconst 1, 1) := by decide +kernel
theorem dX5_issueTicket_79 : decode cX5_issueTicket 79 = .ok (.aload_n 0, 1) := by decide +kernel
theorem dX5_issueTicket_80 : decode cX5_issueTicket 80 = .ok (.getfield 33, 3) := by decide +kernel
theorem dX5_issueTicket_83 : decode cX5_issueTicket 83 = .ok (.iload_n 3, 1) := by decide +kernel
theorem dX5_issueTicket_84 : decode cX5_issueTicket 84 = .ok (.invokevirtual 77, 3) := by decide +kernel
theorem dX5_issueTicket_87 : decode cX5_issueTicket 87 = .ok (.ifCond .eq 7, 3) := by decide +kernel
theorem dX5_issueTicket_90 : decode cX5_issueTicket 90 = .ok (.iload_n 2, 1) := by decide +kernel
theorem dX5_issueTicket_91 : decode cX5_issueTicket 91 = .ok (.goto 5, 3) := by decide +kernel
theorem dX5_issueTicket_94 : decode cX5_issueTicket 94 = .ok (.bipush (-4), 2) := by decide +kernel
theorem dX5_issueTicket_96 : decode cX5_issueTicket 96 = .ok (.ireturn, 1) := by decide +kernel
theorem dX5_endsWithTicket_0 : decode cX5_endsWithTicket 0 = .ok (.aload_n 0, 1) := by decide +kernel
theorem dX5_endsWithTicket_1 : decode cX5_endsWithTicket 1 = .ok (.getfield 21, 3) := by decide +kernel
theorem dX5_endsWithTicket_4 : decode cX5_endsWithTicket 4 = .ok (.getfield 81, 3) := by decide +kernel
theorem dX5_endsWithTicket_7 : decode cX5_endsWithTicket 7 = .ok (.iconst 1, 1) := by decide +kernel
theorem dX5_endsWithTicket_8 : decode cX5_endsWithTicket 8 = .ok (.isub, 1) := by decide +kernel
theorem dX5_endsWithTicket_9 : decode cX5_endsWithTicket 9 = .ok (.istore_n 1, 1) := by decide +kernel
theorem dX5_endsWithTicket_10 : decode cX5_endsWithTicket 10 = .ok (.iload_n 1, 1) := by decide +kernel
theorem dX5_endsWithTicket_11 : decode cX5_endsWithTicket 11 = .ok (.ifCond .lt 49, 3) := by decide +kernel
theorem dX5_endsWithTicket_14 : decode cX5_endsWithTicket 14 = .ok (.aload_n 0, 1) := by decide +kernel
theorem dX5_endsWithTicket_15 : decode cX5_endsWithTicket 15 = .ok (.getfield 12, 3) := by decide +kernel
theorem dX5_endsWithTicket_18 : decode cX5_endsWithTicket 18 = .ok (.aload_n 0, 1) := by decide +kernel
theorem dX5_endsWithTicket_19 : decode cX5_endsWithTicket 19 = .ok (.getfield 21, 3) := by decide +kernel
theorem dX5_endsWithTicket_22 : decode cX5_endsWithTicket 22 = .ok (.getfield 84, 3) := by decide +kernel
theorem dX5_endsWithTicket_25 : decode cX5_endsWithTicket 25 = .ok (.iload_n 1, 1) := by decide +kernel
theorem dX5_endsWithTicket_26 : decode cX5_endsWithTicket 26 = .ok (.invokevirtual 87, 3) := by decide +kernel
theorem dX5_endsWithTicket_29 : decode cX5_endsWithTicket 29 = .ok (.iconst 1, 1) := by decide +kernel
theorem dX5_endsWithTicket_30 : decode cX5_endsWithTicket 30 = .ok (.if_icmp .ne 30, 3) := by decide +kernel
theorem dX5_endsWithTicket_33 : decode cX5_endsWithTicket 33 = .ok (.aload_n 0, 1) := by decide +kernel
theorem dX5_endsWithTicket_34 : decode cX5_endsWithTicket 34 = .ok (.getfield 12, 3) := by decide +kernel
theorem dX5_endsWithTicket_37 : decode cX5_endsWithTicket 37 = .ok (.aload_n 0, 1) := by decide +kernel
theorem dX5_endsWithTicket_38 : decode cX5_endsWithTicket 38 = .ok (.getfield 21, 3) := by decide +kernel
theorem dX5_endsWithTicket_41 : decode cX5_endsWithTicket 41 = .ok (.getfield 84, 3) := by decide +kernel
theorem dX5_endsWithTicket_44 : decode cX5_endsWithTicket 44 = .ok (.iload_n 1, 1) := by decide +kernel
theorem dX5_endsWithTicket_45 : decode cX5_endsWithTicket 45 = .ok (.iconst 0, 1) := by decide +kernel
theorem dX5_endsWithTicket_46 : decode cX5_endsWithTicket 46 = .ok (.invokevirtual 91, 3) := by decide +kernel
theorem dX5_endsWithTicket_49 : decode cX5_endsWithTicket 49 = .ok (.sipush 10000, 3) := by decide +kernel
theorem dX5_endsWithTicket_52 : decode cX5_endsWithTicket 52 = .ok (.idiv, 1) := by decide +kernel
theorem dX5_endsWithTicket_53 : decode cX5_endsWithTicket 53 = .ok (.ifCond .ne 7, 3) := by decide +kernel
theorem dX5_endsWithTicket_56 : decode cX5_endsWithTicket 56 = .ok (.iconst 1, 1) := by decide +kernel
theorem dX5_endsWithTicket_57 : decode cX5_endsWithTicket 57 = .ok (.goto 4, 3) := by decide +kernel
theorem dX5_endsWithTicket_60 : decode cX5_endsWithTicket 60 = .ok (.iconst 0, 1) := by decide +kernel
theorem dX5_endsWithTicket_61 : decode cX5_endsWithTicket 61 = .ok (.ireturn, 1) := by decide +kernel
theorem dX5_cancelLatest_0 : decode cX5_cancelLatest 0 = .ok (.aload_n 0, 1) := by decide +kernel
theorem dX5_cancelLatest_1 : decode cX5_cancelLatest 1 = .ok (.getfield 12, 3) := by decide +kernel
theorem dX5_cancelLatest_4 : decode cX5_cancelLatest 4 = .ok (.aload_n 0, 1) := by decide +kernel
theorem dX5_cancelLatest_5 : decode cX5_cancelLatest 5 = .ok (.getfield 21, 3) := by decide +kernel
theorem dX5_cancelLatest_8 : decode cX5_cancelLatest 8 = .ok (.getfield 84, 3) := by decide +kernel
theorem dX5_cancelLatest_11 : decode cX5_cancelLatest 11 = .ok (.aload_n 0, 1) := by decide +kernel
theorem dX5_cancelLatest_12 : decode cX5_cancelLatest 12 = .ok (.getfield 21, 3) := by decide +kernel
theorem dX5_cancelLatest_15 : decode cX5_cancelLatest 15 = .ok (.getfield 81, 3) := by decide +kernel
theorem dX5_cancelLatest_18 : decode cX5_cancelLatest 18 = .ok (.iconst 1, 1) := by decide +kernel
theorem dX5_cancelLatest_19 : decode cX5_cancelLatest 19 = .ok (.isub, 1) := by decide +kernel
theorem dX5_cancelLatest_20 : decode cX5_cancelLatest 20 = .ok (.iconst 2, 1) := by decide +kernel
theorem dX5_cancelLatest_21 : decode cX5_cancelLatest 21 = .ok (.invokevirtual 91, 3) := by decide +kernel
theorem dX5_cancelLatest_24 : decode cX5_cancelLatest 24 = .ok (.istore_n 1, 1) := by decide +kernel
theorem dX5_cancelLatest_25 : decode cX5_cancelLatest 25 = .ok (.aload_n 0, 1) := by decide +kernel
theorem dX5_cancelLatest_26 : decode cX5_cancelLatest 26 = .ok (.iconst 1, 1) := by decide +kernel
theorem dX5_cancelLatest_27 : decode cX5_cancelLatest 27 = .ok (.aload_n 0, 1) := by decide +kernel
theorem dX5_cancelLatest_28 : decode cX5_cancelLatest 28 = .ok (.getfield 33, 3) := by decide +kernel
theorem dX5_cancelLatest_31 : decode cX5_cancelLatest 31 = .ok (.iload_n 1, 1) := by decide +kernel
theorem dX5_cancelLatest_32 : decode cX5_cancelLatest 32 = .ok (.invokevirtual 77, 3) := by decide +kernel
theorem dX5_cancelLatest_35 : decode cX5_cancelLatest 35 = .ok (.ifCond .eq 11, 3) := by decide +kernel
theorem dX5_cancelLatest_38 : decode cX5_cancelLatest 38 = .ok (.iload_n 1, 1) := by decide +kernel
theorem dX5_cancelLatest_39 : decode cX5_cancelLatest 39 = .ok (.sipush 1000, 3) := by decide +kernel
theorem dX5_cancelLatest_42 : decode cX5_cancelLatest 42 = .ok (.irem, 1) := by decide +kernel
theorem dX5_cancelLatest_43 : decode cX5_cancelLatest 43 = .ok (.goto 5, 3) := by decide +kernel
theorem dX5_cancelLatest_46 : decode cX5_cancelLatest 46 = .ok (.bipush (-4), 2) := by decide +kernel
theorem dX5_cancelLatest_48 : decode cX5_cancelLatest 48 = .ok (.ireturn, 1) := by decide +kernel
theorem dX5_closeDay_0 : decode cX5_closeDay 0 = .ok (.aload_n 0, 1) := by decide +kernel
theorem dX5_closeDay_1 : decode cX5_closeDay 1 = .ok (.getfield 21, 3) := by decide +kernel
theorem dX5_closeDay_4 : decode cX5_closeDay 4 = .ok (.getfield 60, 3) := by decide +kernel
theorem dX5_closeDay_7 : decode cX5_closeDay 7 = .ok (.istore_n 1, 1) := by decide +kernel
theorem dX5_closeDay_8 : decode cX5_closeDay 8 = .ok (.aload_n 0, 1) := by decide +kernel
theorem dX5_closeDay_9 : decode cX5_closeDay 9 = .ok (.iconst 3, 1) := by decide +kernel
theorem dX5_closeDay_10 : decode cX5_closeDay 10 = .ok (.aload_n 0, 1) := by decide +kernel
theorem dX5_closeDay_11 : decode cX5_closeDay 11 = .ok (.getfield 33, 3) := by decide +kernel
theorem dX5_closeDay_14 : decode cX5_closeDay 14 = .ok (.iload_n 1, 1) := by decide +kernel
theorem dX5_closeDay_15 : decode cX5_closeDay 15 = .ok (.invokevirtual 77, 3) := by decide +kernel
theorem dX5_closeDay_18 : decode cX5_closeDay 18 = .ok (.ifCond .eq 7, 3) := by decide +kernel
theorem dX5_closeDay_21 : decode cX5_closeDay 21 = .ok (.iload_n 1, 1) := by decide +kernel
theorem dX5_closeDay_22 : decode cX5_closeDay 22 = .ok (.goto 5, 3) := by decide +kernel
theorem dX5_closeDay_25 : decode cX5_closeDay 25 = .ok (.bipush (-4), 2) := by decide +kernel
theorem dX5_closeDay_27 : decode cX5_closeDay 27 = .ok (.ireturn, 1) := by decide +kernel
theorem dX5_putInPaper_0 : decode cX5_putInPaper 0 = .ok (.aload_n 0, 1) := by decide +kernel
theorem dX5_putInPaper_1 : decode cX5_putInPaper 1 = .ok (.getfield 37, 3) := by decide +kernel
theorem dX5_putInPaper_4 : decode cX5_putInPaper 4 = .ok (.istore_n 3, 1) := by decide +kernel
theorem dX5_putInPaper_5 : decode cX5_putInPaper 5 = .ok (.aload_n 0, 1) := by decide +kernel
theorem dX5_putInPaper_6 : decode cX5_putInPaper 6 = .ok (.iload_n 2, 1) := by decide +kernel
theorem dX5_putInPaper_7 : decode cX5_putInPaper 7 = .ok (.putfield 37, 3) := by decide +kernel
theorem dX5_putInPaper_10 : decode cX5_putInPaper 10 = .ok (.aload_n 0, 1) := by decide +kernel
theorem dX5_putInPaper_11 : decode cX5_putInPaper 11 = .ok (.iconst 4, 1) := by decide +kernel
theorem dX5_putInPaper_12 : decode cX5_putInPaper 12 = .ok (.aload_n 0, 1) := by decide +kernel
theorem dX5_putInPaper_13 : decode cX5_putInPaper 13 = .ok (.getfield 33, 3) := by decide +kernel
theorem dX5_putInPaper_16 : decode cX5_putInPaper 16 = .ok (.iload_n 1, 1) := by decide +kernel
theorem dX5_putInPaper_17 : decode cX5_putInPaper 17 = .ok (.invokevirtual 77, 3) := by decide +kernel
theorem dX5_putInPaper_20 : decode cX5_putInPaper 20 = .ok (.ifCond .eq 7, 3) := by decide +kernel
theorem dX5_putInPaper_23 : decode cX5_putInPaper 23 = .ok (.iload_n 3, 1) := by decide +kernel
theorem dX5_putInPaper_24 : decode cX5_putInPaper 24 = .ok (.goto 5, 3) := by decide +kernel
theorem dX5_putInPaper_27 : decode cX5_putInPaper 27 = .ok (.bipush (-4), 2) := by decide +kernel
theorem dX5_putInPaper_29 : decode cX5_putInPaper 29 = .ok (.ireturn, 1) := by decide +kernel
theorem dX5_moveClock_0 : decode cX5_moveClock 0 = .ok (.iload_n 1, 1) := by decide +kernel
theorem dX5_moveClock_1 : decode cX5_moveClock 1 = .ok (.aload_n 0, 1) := by decide +kernel
theorem dX5_moveClock_2 : decode cX5_moveClock 2 = .ok (.getfield 33, 3) := by decide +kernel
theorem dX5_moveClock_5 : decode cX5_moveClock 5 = .ok (.isub, 1) := by decide +kernel
theorem dX5_moveClock_6 : decode cX5_moveClock 6 = .ok (.invokestatic 95, 3) := by decide +kernel
theorem dX5_moveClock_9 : decode cX5_moveClock 9 = .ok (.iconst 5, 1) := by decide +kernel
theorem dX5_moveClock_10 : decode cX5_moveClock 10 = .ok (.if_icmp .lt 7, 3) := by decide +kernel
theorem dX5_moveClock_13 : decode cX5_moveClock 13 = .ok (.iconst 1, 1) := by decide +kernel
theorem dX5_moveClock_14 : decode cX5_moveClock 14 = .ok (.goto 4, 3) := by decide +kernel
theorem dX5_moveClock_17 : decode cX5_moveClock 17 = .ok (.iconst 0, 1) := by decide +kernel
theorem dX5_moveClock_18 : decode cX5_moveClock 18 = .ok (.istore_n 2, 1) := by decide +kernel
theorem dX5_moveClock_19 : decode cX5_moveClock 19 = .ok (.iload_n 2, 1) := by decide +kernel
theorem dX5_moveClock_20 : decode cX5_moveClock 20 = .ok (.ifCond .eq 19, 3) := by decide +kernel
theorem dX5_moveClock_23 : decode cX5_moveClock 23 = .ok (.aload_n 0, 1) := by decide +kernel
theorem dX5_moveClock_24 : decode cX5_moveClock 24 = .ok (.iconst 2, 1) := by decide +kernel
theorem dX5_moveClock_25 : decode cX5_moveClock 25 = .ok (.iload_n 1, 1) := by decide +kernel
theorem dX5_moveClock_26 : decode cX5_moveClock 26 = .ok (.aload_n 0, 1) := by decide +kernel
theorem dX5_moveClock_27 : decode cX5_moveClock 27 = .ok (.getfield 33, 3) := by decide +kernel
theorem dX5_moveClock_30 : decode cX5_moveClock 30 = .ok (.invokevirtual 77, 3) := by decide +kernel
theorem dX5_moveClock_33 : decode cX5_moveClock 33 = .ok (.ifCond .ne 6, 3) := by decide +kernel
theorem dX5_moveClock_36 : decode cX5_moveClock 36 = .ok (.bipush (-4), 2) := by decide +kernel
theorem dX5_moveClock_38 : decode cX5_moveClock 38 = .ok (.ireturn, 1) := by decide +kernel
theorem dX5_moveClock_39 : decode cX5_moveClock 39 = .ok (.aload_n 0, 1) := by decide +kernel
theorem dX5_moveClock_40 : decode cX5_moveClock 40 = .ok (.iload_n 1, 1) := by decide +kernel
theorem dX5_moveClock_41 : decode cX5_moveClock 41 = .ok (.putfield 33, 3) := by decide +kernel
theorem dX5_moveClock_44 : decode cX5_moveClock 44 = .ok (.iload_n 2, 1) := by decide +kernel
theorem dX5_moveClock_45 : decode cX5_moveClock 45 = .ok (.ifCond .eq 7, 3) := by decide +kernel
theorem dX5_moveClock_48 : decode cX5_moveClock 48 = .ok (.iconst 1, 1) := by decide +kernel
theorem dX5_moveClock_49 : decode cX5_moveClock 49 = .ok (.goto 4, 3) := by decide +kernel
theorem dX5_moveClock_52 : decode cX5_moveClock 52 = .ok (.iconst 0, 1) := by decide +kernel
theorem dX5_moveClock_53 : decode cX5_moveClock 53 = .ok (.ireturn, 1) := by decide +kernel
theorem dX5_losePower_0 : decode cX5_losePower 0 = .ok (.aload_n 0, 1) := by decide +kernel
theorem dX5_losePower_1 : decode cX5_losePower 1 = .ok (.iconst 0, 1) := by decide +kernel
theorem dX5_losePower_2 : decode cX5_losePower 2 = .ok (.putfield 29, 3) := by decide +kernel
theorem dX5_losePower_5 : decode cX5_losePower 5 = .ok (.aload_n 0, 1) := by decide +kernel
theorem dX5_losePower_6 : decode cX5_losePower 6 = .ok (.getfield 21, 3) := by decide +kernel
theorem dX5_losePower_9 : decode cX5_losePower 9 = .ok (.invokevirtual 100, 3) := by decide +kernel
theorem dX5_losePower_12 : decode cX5_losePower 12 = .ok (.return_, 1) := by decide +kernel
theorem dX5_wake_0 : decode cX5_wake 0 = .ok (.aload_n 0, 1) := by decide +kernel
theorem dX5_wake_1 : decode cX5_wake 1 = .ok (.iconst 1, 1) := by decide +kernel
theorem dX5_wake_2 : decode cX5_wake 2 = .ok (.putfield 29, 3) := by decide +kernel
theorem dX5_wake_5 : decode cX5_wake 5 = .ok (.aload_n 0, 1) := by decide +kernel
theorem dX5_wake_6 : decode cX5_wake 6 = .ok (.getfield 21, 3) := by decide +kernel
theorem dX5_wake_9 : decode cX5_wake 9 = .ok (.aload_n 0, 1) := by decide +kernel
theorem dX5_wake_10 : decode cX5_wake 10 = .ok (.getfield 12, 3) := by decide +kernel
theorem dX5_wake_13 : decode cX5_wake 13 = .ok (.invokevirtual 103, 3) := by decide +kernel
theorem dX5_wake_16 : decode cX5_wake 16 = .ok (.return_, 1) := by decide +kernel
theorem dX5_writeRecord_0 : decode cX5_writeRecord 0 = .ok (.sipush 10000, 3) := by decide +kernel
theorem dX5_writeRecord_3 : decode cX5_writeRecord 3 = .ok (.iload_n 1, 1) := by decide +kernel
theorem dX5_writeRecord_4 : decode cX5_writeRecord 4 = .ok (.imul, 1) := by decide +kernel
theorem dX5_writeRecord_5 : decode cX5_writeRecord 5 = .ok (.aload_n 0, 1) := by decide +kernel
theorem dX5_writeRecord_6 : decode cX5_writeRecord 6 = .ok (.getfield 21, 3) := by decide +kernel
theorem dX5_writeRecord_9 : decode cX5_writeRecord 9 = .ok (.getfield 74, 3) := by decide +kernel
theorem dX5_writeRecord_12 : decode cX5_writeRecord 12 = .ok (.iadd, 1) := by decide +kernel
theorem dX5_writeRecord_13 : decode cX5_writeRecord 13 = .ok (.istore 4, 2) := by decide +kernel
theorem dX5_writeRecord_15 : decode cX5_writeRecord 15 = .ok (.aload_n 0, 1) := by decide +kernel
theorem dX5_writeRecord_16 : decode cX5_writeRecord 16 = .ok (.getfield 21, 3) := by decide +kernel
theorem dX5_writeRecord_19 : decode cX5_writeRecord 19 = .ok (.getfield 81, 3) := by decide +kernel
theorem dX5_writeRecord_22 : decode cX5_writeRecord 22 = .ok (.iconst 4, 1) := by decide +kernel
theorem dX5_writeRecord_23 : decode cX5_writeRecord 23 = .ok (.if_icmp .lt 10, 3) := by decide +kernel
theorem dX5_writeRecord_26 : decode cX5_writeRecord 26 = .ok (.aload_n 0, 1) := by decide +kernel
theorem dX5_writeRecord_27 : decode cX5_writeRecord 27 = .ok (.invokevirtual 106, 3) := by decide +kernel
theorem dX5_writeRecord_30 : decode cX5_writeRecord 30 = .ok (.ifCond .eq 7, 3) := by decide +kernel
theorem dX5_writeRecord_33 : decode cX5_writeRecord 33 = .ok (.iconst 1, 1) := by decide +kernel
theorem dX5_writeRecord_34 : decode cX5_writeRecord 34 = .ok (.goto 4, 3) := by decide +kernel
theorem dX5_writeRecord_37 : decode cX5_writeRecord 37 = .ok (.iconst 0, 1) := by decide +kernel
theorem dX5_writeRecord_38 : decode cX5_writeRecord 38 = .ok (.istore 5, 2) := by decide +kernel
theorem dX5_writeRecord_40 : decode cX5_writeRecord 40 = .ok (.iload 5, 2) := by decide +kernel
theorem dX5_writeRecord_42 : decode cX5_writeRecord 42 = .ok (.ifCond .eq 14, 3) := by decide +kernel
theorem dX5_writeRecord_45 : decode cX5_writeRecord 45 = .ok (.aload_n 0, 1) := by decide +kernel
theorem dX5_writeRecord_46 : decode cX5_writeRecord 46 = .ok (.iload 4, 2) := by decide +kernel
theorem dX5_writeRecord_48 : decode cX5_writeRecord 48 = .ok (.iload_n 2, 1) := by decide +kernel
theorem dX5_writeRecord_49 : decode cX5_writeRecord 49 = .ok (.iload_n 3, 1) := by decide +kernel
theorem dX5_writeRecord_50 : decode cX5_writeRecord 50 = .ok (.invokevirtual 110, 3) := by decide +kernel
theorem dX5_writeRecord_53 : decode cX5_writeRecord 53 = .ok (.ifCond .ne 9, 3) := by decide +kernel
theorem dX5_writeRecord_56 : decode cX5_writeRecord 56 = .ok (.aload_n 0, 1) := by decide +kernel
theorem dX5_writeRecord_57 : decode cX5_writeRecord 57 = .ok (.invokevirtual 113, 3) := by decide +kernel
theorem dX5_writeRecord_60 : decode cX5_writeRecord 60 = .ok (.iconst 0, 1) := by decide +kernel
theorem dX5_writeRecord_61 : decode cX5_writeRecord 61 = .ok (.ireturn, 1) := by decide +kernel
theorem dX5_writeRecord_62 : decode cX5_writeRecord 62 = .ok (.aload_n 0, 1) := by decide +kernel
theorem dX5_writeRecord_63 : decode cX5_writeRecord 63 = .ok (.getfield 21, 3) := by decide +kernel
theorem dX5_writeRecord_66 : decode cX5_writeRecord 66 = .ok (.dup, 1) := by decide +kernel
theorem dX5_writeRecord_67 : decode cX5_writeRecord 67 = .ok (.getfield 81, 3) := by decide +kernel
theorem dX5_writeRecord_70 : decode cX5_writeRecord 70 = .ok (.iconst 1, 1) := by decide +kernel
theorem dX5_writeRecord_71 : decode cX5_writeRecord 71 = .ok (.iadd, 1) := by decide +kernel
theorem dX5_writeRecord_72 : decode cX5_writeRecord 72 = .ok (.putfield 81, 3) := by decide +kernel
theorem dX5_writeRecord_75 : decode cX5_writeRecord 75 = .ok (.aload_n 0, 1) := by decide +kernel
theorem dX5_writeRecord_76 : decode cX5_writeRecord 76 = .ok (.getfield 21, 3) := by decide +kernel
theorem dX5_writeRecord_79 : decode cX5_writeRecord 79 = .ok (.iload 4, 2) := by decide +kernel
theorem dX5_writeRecord_81 : decode cX5_writeRecord 81 = .ok (.iload_n 3, 1) := by decide +kernel
theorem dX5_writeRecord_82 : decode cX5_writeRecord 82 = .ok (.invokevirtual 116, 3) := by decide +kernel
theorem dX5_writeRecord_85 : decode cX5_writeRecord 85 = .ok (.iconst 1, 1) := by decide +kernel
theorem dX5_writeRecord_86 : decode cX5_writeRecord 86 = .ok (.ireturn, 1) := by decide +kernel
theorem dX5_beginBlock_0 : decode cX5_beginBlock 0 = .ok (.aload_n 0, 1) := by decide +kernel
theorem dX5_beginBlock_1 : decode cX5_beginBlock 1 = .ok (.getfield 21, 3) := by decide +kernel
theorem dX5_beginBlock_4 : decode cX5_beginBlock 4 = .ok (.getfield 84, 3) := by decide +kernel
theorem dX5_beginBlock_7 : decode cX5_beginBlock 7 = .ok (.iconst 1, 1) := by decide +kernel
theorem dX5_beginBlock_8 : decode cX5_beginBlock 8 = .ok (.iadd, 1) := by decide +kernel
theorem dX5_beginBlock_9 : decode cX5_beginBlock 9 = .ok (.iconst 5, 1) := by decide +kernel
theorem dX5_beginBlock_10 : decode cX5_beginBlock 10 = .ok (.irem, 1) := by decide +kernel
theorem dX5_beginBlock_11 : decode cX5_beginBlock 11 = .ok (.istore_n 1, 1) := by decide +kernel
theorem dX5_beginBlock_12 : decode cX5_beginBlock 12 = .ok (.aload_n 0, 1) := by decide +kernel
theorem dX5_beginBlock_13 : decode cX5_beginBlock 13 = .ok (.getfield 12, 3) := by decide +kernel
theorem dX5_beginBlock_16 : decode cX5_beginBlock 16 = .ok (.aload_n 0, 1) := by decide +kernel
theorem dX5_beginBlock_17 : decode cX5_beginBlock 17 = .ok (.getfield 21, 3) := by decide +kernel
theorem dX5_beginBlock_20 : decode cX5_beginBlock 20 = .ok (.getfield 84, 3) := by decide +kernel
theorem dX5_beginBlock_23 : decode cX5_beginBlock 23 = .ok (.iconst 0, 1) := by decide +kernel
theorem dX5_beginBlock_24 : decode cX5_beginBlock 24 = .ok (.invokevirtual 120, 3) := by decide +kernel
theorem dX5_beginBlock_27 : decode cX5_beginBlock 27 = .ok (.iconst 1, 1) := by decide +kernel
theorem dX5_beginBlock_28 : decode cX5_beginBlock 28 = .ok (.iadd, 1) := by decide +kernel
theorem dX5_beginBlock_29 : decode cX5_beginBlock 29 = .ok (.sipush 10000, 3) := by decide +kernel
theorem dX5_beginBlock_32 : decode cX5_beginBlock 32 = .ok (.irem, 1) := by decide +kernel
theorem dX5_beginBlock_33 : decode cX5_beginBlock 33 = .ok (.istore_n 2, 1) := by decide +kernel
theorem dX5_beginBlock_34 : decode cX5_beginBlock 34 = .ok (.iload_n 2, 1) := by decide +kernel
theorem dX5_beginBlock_35 : decode cX5_beginBlock 35 = .ok (.aload_n 0, 1) := by decide +kernel
theorem dX5_beginBlock_36 : decode cX5_beginBlock 36 = .ok (.getfield 21, 3) := by decide +kernel
theorem dX5_beginBlock_39 : decode cX5_beginBlock 39 = .ok (.getfield 60, 3) := by decide +kernel
theorem dX5_beginBlock_42 : decode cX5_beginBlock 42 = .ok (.aload_n 0, 1) := by decide +kernel
theorem dX5_beginBlock_43 : decode cX5_beginBlock 43 = .ok (.getfield 21, 3) := by decide +kernel
theorem dX5_beginBlock_46 : decode cX5_beginBlock 46 = .ok (.getfield 123, 3) := by decide +kernel
theorem dX5_beginBlock_49 : decode cX5_beginBlock 49 = .ok (.aload_n 0, 1) := by decide +kernel
theorem dX5_beginBlock_50 : decode cX5_beginBlock 50 = .ok (.getfield 21, 3) := by decide +kernel
theorem dX5_beginBlock_53 : decode cX5_beginBlock 53 = .ok (.getfield 68, 3) := by decide +kernel
theorem dX5_beginBlock_56 : decode cX5_beginBlock 56 = .ok (.aload_n 0, 1) := by decide +kernel
theorem dX5_beginBlock_57 : decode cX5_beginBlock 57 = .ok (.getfield 21, 3) := by decide +kernel
theorem dX5_beginBlock_60 : decode cX5_beginBlock 60 = .ok (.getfield 74, 3) := by decide +kernel
theorem dX5_beginBlock_63 : decode cX5_beginBlock 63 = .ok (.invokestatic 126, 3) := by decide +kernel
theorem dX5_beginBlock_66 : decode cX5_beginBlock 66 = .ok (.istore_n 3, 1) := by decide +kernel
theorem dX5_beginBlock_67 : decode cX5_beginBlock 67 = .ok (.aload_n 0, 1) := by decide +kernel
theorem dX5_beginBlock_68 : decode cX5_beginBlock 68 = .ok (.getfield 12, 3) := by decide +kernel
theorem dX5_beginBlock_71 : decode cX5_beginBlock 71 = .ok (.iload_n 1, 1) := by decide +kernel
theorem dX5_beginBlock_72 : decode cX5_beginBlock 72 = .ok (.invokevirtual 130, 3) := by decide +kernel
theorem dX5_beginBlock_75 : decode cX5_beginBlock 75 = .ok (.ifCond .eq 109, 3) := by decide +kernel
theorem dX5_beginBlock_78 : decode cX5_beginBlock 78 = .ok (.aload_n 0, 1) := by decide +kernel
theorem dX5_beginBlock_79 : decode cX5_beginBlock 79 = .ok (.getfield 12, 3) := by decide +kernel
theorem dX5_beginBlock_82 : decode cX5_beginBlock 82 = .ok (.iload_n 1, 1) := by decide +kernel
theorem dX5_beginBlock_83 : decode cX5_beginBlock 83 = .ok (.iconst 0, 1) := by decide +kernel
theorem dX5_beginBlock_84 : decode cX5_beginBlock 84 = .ok (.iload_n 2, 1) := by decide +kernel
theorem dX5_beginBlock_85 : decode cX5_beginBlock 85 = .ok (.invokevirtual 133, 3) := by decide +kernel
theorem dX5_beginBlock_88 : decode cX5_beginBlock 88 = .ok (.ifCond .eq 96, 3) := by decide +kernel
theorem dX5_beginBlock_91 : decode cX5_beginBlock 91 = .ok (.aload_n 0, 1) := by decide +kernel
theorem dX5_beginBlock_92 : decode cX5_beginBlock 92 = .ok (.getfield 12, 3) := by decide +kernel
theorem dX5_beginBlock_95 : decode cX5_beginBlock 95 = .ok (.iload_n 1, 1) := by decide +kernel
theorem dX5_beginBlock_96 : decode cX5_beginBlock 96 = .ok (.iconst 1, 1) := by decide +kernel
theorem dX5_beginBlock_97 : decode cX5_beginBlock 97 = .ok (.aload_n 0, 1) := by decide +kernel
theorem dX5_beginBlock_98 : decode cX5_beginBlock 98 = .ok (.getfield 21, 3) := by decide +kernel
theorem dX5_beginBlock_101 : decode cX5_beginBlock 101 = .ok (.getfield 60, 3) := by decide +kernel
theorem dX5_beginBlock_104 : decode cX5_beginBlock 104 = .ok (.invokevirtual 133, 3) := by decide +kernel
theorem dX5_beginBlock_107 : decode cX5_beginBlock 107 = .ok (.ifCond .eq 77, 3) := by decide +kernel
theorem dX5_beginBlock_110 : decode cX5_beginBlock 110 = .ok (.aload_n 0, 1) := by decide +kernel
theorem dX5_beginBlock_111 : decode cX5_beginBlock 111 = .ok (.getfield 12, 3) := by decide +kernel
theorem dX5_beginBlock_114 : decode cX5_beginBlock 114 = .ok (.iload_n 1, 1) := by decide +kernel
theorem dX5_beginBlock_115 : decode cX5_beginBlock 115 = .ok (.iconst 2, 1) := by decide +kernel
theorem dX5_beginBlock_116 : decode cX5_beginBlock 116 = .ok (.aload_n 0, 1) := by decide +kernel
theorem dX5_beginBlock_117 : decode cX5_beginBlock 117 = .ok (.getfield 21, 3) := by decide +kernel
theorem dX5_beginBlock_120 : decode cX5_beginBlock 120 = .ok (.getfield 123, 3) := by decide +kernel
theorem dX5_beginBlock_123 : decode cX5_beginBlock 123 = .ok (.invokevirtual 133, 3) := by decide +kernel
theorem dX5_beginBlock_126 : decode cX5_beginBlock 126 = .ok (.ifCond .eq 58, 3) := by decide +kernel
theorem dX5_beginBlock_129 : decode cX5_beginBlock 129 = .ok (.aload_n 0, 1) := by decide +kernel
theorem dX5_beginBlock_130 : decode cX5_beginBlock 130 = .ok (.getfield 12, 3) := by decide +kernel
theorem dX5_beginBlock_133 : decode cX5_beginBlock 133 = .ok (.iload_n 1, 1) := by decide +kernel
theorem dX5_beginBlock_134 : decode cX5_beginBlock 134 = .ok (.iconst 3, 1) := by decide +kernel
theorem dX5_beginBlock_135 : decode cX5_beginBlock 135 = .ok (.aload_n 0, 1) := by decide +kernel
theorem dX5_beginBlock_136 : decode cX5_beginBlock 136 = .ok (.getfield 21, 3) := by decide +kernel
theorem dX5_beginBlock_139 : decode cX5_beginBlock 139 = .ok (.getfield 68, 3) := by decide +kernel
theorem dX5_beginBlock_142 : decode cX5_beginBlock 142 = .ok (.invokevirtual 133, 3) := by decide +kernel
theorem dX5_beginBlock_145 : decode cX5_beginBlock 145 = .ok (.ifCond .eq 39, 3) := by decide +kernel
theorem dX5_beginBlock_148 : decode cX5_beginBlock 148 = .ok (.aload_n 0, 1) := by decide +kernel
theorem dX5_beginBlock_149 : decode cX5_beginBlock 149 = .ok (.getfield 12, 3) := by decide +kernel
theorem dX5_beginBlock_152 : decode cX5_beginBlock 152 = .ok (.iload_n 1, 1) := by decide +kernel
theorem dX5_beginBlock_153 : decode cX5_beginBlock 153 = .ok (.iconst 4, 1) := by decide +kernel
theorem dX5_beginBlock_154 : decode cX5_beginBlock 154 = .ok (.aload_n 0, 1) := by decide +kernel
theorem dX5_beginBlock_155 : decode cX5_beginBlock 155 = .ok (.getfield 21, 3) := by decide +kernel
theorem dX5_beginBlock_158 : decode cX5_beginBlock 158 = .ok (.getfield 74, 3) := by decide +kernel
theorem dX5_beginBlock_161 : decode cX5_beginBlock 161 = .ok (.invokevirtual 133, 3) := by decide +kernel
theorem dX5_beginBlock_164 : decode cX5_beginBlock 164 = .ok (.ifCond .eq 20, 3) := by decide +kernel
theorem dX5_beginBlock_167 : decode cX5_beginBlock 167 = .ok (.aload_n 0, 1) := by decide +kernel
theorem dX5_beginBlock_168 : decode cX5_beginBlock 168 = .ok (.getfield 12, 3) := by decide +kernel
theorem dX5_beginBlock_171 : decode cX5_beginBlock 171 = .ok (.iload_n 1, 1) := by decide +kernel
theorem dX5_beginBlock_172 : decode cX5_beginBlock 172 = .ok (.iconst 5, 1) := by decide +kernel
theorem dX5_beginBlock_173 : decode cX5_beginBlock 173 = .ok (.iload_n 3, 1) := by decide +kernel
theorem dX5_beginBlock_174 : decode cX5_beginBlock 174 = .ok (.invokevirtual 133, 3) := by decide +kernel
theorem dX5_beginBlock_177 : decode cX5_beginBlock 177 = .ok (.ifCond .eq 7, 3) := by decide +kernel
theorem dX5_beginBlock_180 : decode cX5_beginBlock 180 = .ok (.iconst 1, 1) := by decide +kernel
theorem dX5_beginBlock_181 : decode cX5_beginBlock 181 = .ok (.goto 4, 3) := by decide +kernel
theorem dX5_beginBlock_184 : decode cX5_beginBlock 184 = .ok (.iconst 0, 1) := by decide +kernel
theorem dX5_beginBlock_185 : decode cX5_beginBlock 185 = .ok (.istore 4, 2) := by decide +kernel
theorem dX5_beginBlock_187 : decode cX5_beginBlock 187 = .ok (.iload 4, 2) := by decide +kernel
theorem dX5_beginBlock_189 : decode cX5_beginBlock 189 = .ok (.ifCond .eq 19, 3) := by decide +kernel
theorem dX5_beginBlock_192 : decode cX5_beginBlock 192 = .ok (.aload_n 0, 1) := by decide +kernel
theorem dX5_beginBlock_193 : decode cX5_beginBlock 193 = .ok (.getfield 21, 3) := by decide +kernel
theorem dX5_beginBlock_196 : decode cX5_beginBlock 196 = .ok (.iload_n 1, 1) := by decide +kernel
theorem dX5_beginBlock_197 : decode cX5_beginBlock 197 = .ok (.putfield 84, 3) := by decide +kernel
theorem dX5_beginBlock_200 : decode cX5_beginBlock 200 = .ok (.aload_n 0, 1) := by decide +kernel
theorem dX5_beginBlock_201 : decode cX5_beginBlock 201 = .ok (.getfield 21, 3) := by decide +kernel
theorem dX5_beginBlock_204 : decode cX5_beginBlock 204 = .ok (.iconst 0, 1) := by decide +kernel
theorem dX5_beginBlock_205 : decode cX5_beginBlock 205 = .ok (.putfield 81, 3) := by decide +kernel
theorem dX5_beginBlock_208 : decode cX5_beginBlock 208 = .ok (.iload 4, 2) := by decide +kernel
theorem dX5_beginBlock_210 : decode cX5_beginBlock 210 = .ok (.ireturn, 1) := by decide +kernel
theorem dX5_fillPlace_0 : decode cX5_fillPlace 0 = .ok (.aload_n 0, 1) := by decide +kernel
theorem dX5_fillPlace_1 : decode cX5_fillPlace 1 = .ok (.getfield 21, 3) := by decide +kernel
theorem dX5_fillPlace_4 : decode cX5_fillPlace 4 = .ok (.getfield 84, 3) := by decide +kernel
theorem dX5_fillPlace_7 : decode cX5_fillPlace 7 = .ok (.istore 4, 2) := by decide +kernel
theorem dX5_fillPlace_9 : decode cX5_fillPlace 9 = .ok (.bipush 6, 2) := by decide +kernel
theorem dX5_fillPlace_11 : decode cX5_fillPlace 11 = .ok (.aload_n 0, 1) := by decide +kernel
theorem dX5_fillPlace_12 : decode cX5_fillPlace 12 = .ok (.getfield 21, 3) := by decide +kernel
theorem dX5_fillPlace_15 : decode cX5_fillPlace 15 = .ok (.getfield 81, 3) := by decide +kernel
theorem dX5_fillPlace_18 : decode cX5_fillPlace 18 = .ok (.iconst 4, 1) := by decide +kernel
theorem dX5_fillPlace_19 : decode cX5_fillPlace 19 = .ok (.imul, 1) := by decide +kernel
theorem dX5_fillPlace_20 : decode cX5_fillPlace 20 = .ok (.iadd, 1) := by decide +kernel
theorem dX5_fillPlace_21 : decode cX5_fillPlace 21 = .ok (.istore 5, 2) := by decide +kernel
theorem dX5_fillPlace_23 : decode cX5_fillPlace 23 = .ok (.iload_n 1, 1) := by decide +kernel
theorem dX5_fillPlace_24 : decode cX5_fillPlace 24 = .ok (.iload_n 2, 1) := by decide +kernel
theorem dX5_fillPlace_25 : decode cX5_fillPlace 25 = .ok (.iload_n 3, 1) := by decide +kernel
theorem dX5_fillPlace_26 : decode cX5_fillPlace 26 = .ok (.aload_n 0, 1) := by decide +kernel
theorem dX5_fillPlace_27 : decode cX5_fillPlace 27 = .ok (.getfield 12, 3) := by decide +kernel
theorem dX5_fillPlace_30 : decode cX5_fillPlace 30 = .ok (.iload 4, 2) := by decide +kernel
theorem dX5_fillPlace_32 : decode cX5_fillPlace 32 = .ok (.iconst 0, 1) := by decide +kernel
theorem dX5_fillPlace_33 : decode cX5_fillPlace 33 = .ok (.invokevirtual 120, 3) := by decide +kernel
theorem dX5_fillPlace_36 : decode cX5_fillPlace 36 = .ok (.invokestatic 136, 3) := by decide +kernel
theorem dX5_fillPlace_39 : decode cX5_fillPlace 39 = .ok (.istore 6, 2) := by decide +kernel
theorem dX5_fillPlace_41 : decode cX5_fillPlace 41 = .ok (.aload_n 0, 1) := by decide +kernel
theorem dX5_fillPlace_42 : decode cX5_fillPlace 42 = .ok (.getfield 12, 3) := by decide +kernel
theorem dX5_fillPlace_45 : decode cX5_fillPlace 45 = .ok (.iload 4, 2) := by decide +kernel
theorem dX5_fillPlace_47 : decode cX5_fillPlace 47 = .ok (.iload 5, 2) := by decide +kernel
theorem dX5_fillPlace_49 : decode cX5_fillPlace 49 = .ok (.iload_n 1, 1) := by decide +kernel
theorem dX5_fillPlace_50 : decode cX5_fillPlace 50 = .ok (.invokevirtual 133, 3) := by decide +kernel
theorem dX5_fillPlace_53 : decode cX5_fillPlace 53 = .ok (.ifCond .eq 59, 3) := by decide +kernel
theorem dX5_fillPlace_56 : decode cX5_fillPlace 56 = .ok (.aload_n 0, 1) := by decide +kernel
theorem dX5_fillPlace_57 : decode cX5_fillPlace 57 = .ok (.getfield 12, 3) := by decide +kernel
theorem dX5_fillPlace_60 : decode cX5_fillPlace 60 = .ok (.iload 4, 2) := by decide +kernel
theorem dX5_fillPlace_62 : decode cX5_fillPlace 62 = .ok (.iload 5, 2) := by decide +kernel
theorem dX5_fillPlace_64 : decode cX5_fillPlace 64 = .ok (.iconst 1, 1) := by decide +kernel
theorem dX5_fillPlace_65 : decode cX5_fillPlace 65 = .ok (.iadd, 1) := by decide +kernel
theorem dX5_fillPlace_66 : decode cX5_fillPlace 66 = .ok (.iload_n 2, 1) := by decide +kernel
theorem dX5_fillPlace_67 : decode cX5_fillPlace 67 = .ok (.invokevirtual 133, 3) := by decide +kernel
theorem dX5_fillPlace_70 : decode cX5_fillPlace 70 = .ok (.ifCond .eq 42, 3) := by decide +kernel
theorem dX5_fillPlace_73 : decode cX5_fillPlace 73 = .ok (.aload_n 0, 1) := by decide +kernel
theorem dX5_fillPlace_74 : decode cX5_fillPlace 74 = .ok (.getfield 12, 3) := by decide +kernel
theorem dX5_fillPlace_77 : decode cX5_fillPlace 77 = .ok (.iload 4, 2) := by decide +kernel
theorem dX5_fillPlace_79 : decode cX5_fillPlace 79 = .ok (.iload 5, 2) := by decide +kernel
theorem dX5_fillPlace_81 : decode cX5_fillPlace 81 = .ok (.iconst 2, 1) := by decide +kernel
theorem dX5_fillPlace_82 : decode cX5_fillPlace 82 = .ok (.iadd, 1) := by decide +kernel
theorem dX5_fillPlace_83 : decode cX5_fillPlace 83 = .ok (.iload_n 3, 1) := by decide +kernel
theorem dX5_fillPlace_84 : decode cX5_fillPlace 84 = .ok (.invokevirtual 133, 3) := by decide +kernel
theorem dX5_fillPlace_87 : decode cX5_fillPlace 87 = .ok (.ifCond .eq 25, 3) := by decide +kernel
theorem dX5_fillPlace_90 : decode cX5_fillPlace 90 = .ok (.aload_n 0, 1) := by decide +kernel
theorem dX5_fillPlace_91 : decode cX5_fillPlace 91 = .ok (.getfield 12, 3) := by decide +kernel
theorem dX5_fillPlace_94 : decode cX5_fillPlace 94 = .ok (.iload 4, 2) := by decide +kernel
theorem dX5_fillPlace_96 : decode cX5_fillPlace 96 = .ok (.iload 5, 2) := by decide +kernel
theorem dX5_fillPlace_98 : decode cX5_fillPlace 98 = .ok (.iconst 3, 1) := by decide +kernel
theorem dX5_fillPlace_99 : decode cX5_fillPlace 99 = .ok (.iadd, 1) := by decide +kernel
theorem dX5_fillPlace_100 : decode cX5_fillPlace 100 = .ok (.iload 6, 2) := by decide +kernel
theorem dX5_fillPlace_102 : decode cX5_fillPlace 102 = .ok (.invokevirtual 133, 3) := by decide +kernel
theorem dX5_fillPlace_105 : decode cX5_fillPlace 105 = .ok (.ifCond .eq 7, 3) := by decide +kernel
theorem dX5_fillPlace_108 : decode cX5_fillPlace 108 = .ok (.iconst 1, 1) := by decide +kernel
theorem dX5_fillPlace_109 : decode cX5_fillPlace 109 = .ok (.goto 4, 3) := by decide +kernel
theorem dX5_fillPlace_112 : decode cX5_fillPlace 112 = .ok (.iconst 0, 1) := by decide +kernel
theorem dX5_fillPlace_113 : decode cX5_fillPlace 113 = .ok (.ireturn, 1) := by decide +kernel
theorem dX6_init_0 : decode cX6_init 0 = .ok (.aload_n 0, 1) := by decide +kernel
theorem dX6_init_1 : decode cX6_init 1 = .ok (.invokespecial 1, 3) := by decide +kernel
theorem dX6_init_4 : decode cX6_init 4 = .ok (.aload_n 0, 1) := by decide +kernel
theorem dX6_init_5 : decode cX6_init 5 = .ok (.new 7, 3) := by decide +kernel
theorem dX6_init_8 : decode cX6_init 8 = .ok (.dup, 1) := by decide +kernel
theorem dX6_init_9 : decode cX6_init 9 = .ok (.invokespecial 9, 3) := by decide +kernel
theorem dX6_init_12 : decode cX6_init 12 = .ok (.putfield 10, 3) := by decide +kernel
theorem dX6_init_15 : decode cX6_init 15 = .ok (.aload_n 0, 1) := by decide +kernel
theorem dX6_init_16 : decode cX6_init 16 = .ok (.new 7, 3) := by decide +kernel
theorem dX6_init_19 : decode cX6_init 19 = .ok (.dup, 1) := by decide +kernel
theorem dX6_init_20 : decode cX6_init 20 = .ok (.invokespecial 9, 3) := by decide +kernel
theorem dX6_init_23 : decode cX6_init 23 = .ok (.putfield 16, 3) := by decide +kernel
theorem dX6_init_26 : decode cX6_init 26 = .ok (.aload_n 0, 1) := by decide +kernel
theorem dX6_init_27 : decode cX6_init 27 = .ok (.new 19, 3) := by decide +kernel
theorem dX6_init_30 : decode cX6_init 30 = .ok (.dup, 1) := by decide +kernel
theorem dX6_init_31 : decode cX6_init 31 = .ok (.invokespecial 21, 3) := by decide +kernel
theorem dX6_init_34 : decode cX6_init 34 = .ok (.putfield 22, 3) := by decide +kernel
theorem dX6_init_37 : decode cX6_init 37 = .ok (.aload_n 0, 1) := by decide +kernel
theorem dX6_init_38 : decode cX6_init 38 = .ok (.new 26, 3) := by decide +kernel
theorem dX6_init_41 : decode cX6_init 41 = .ok (.dup, 1) := by decide +kernel
theorem dX6_init_42 : decode cX6_init 42 = .ok (.invokespecial 28, 3) := by decide +kernel
theorem dX6_init_45 : decode cX6_init 45 = .ok (.putfield 29, 3) := by decide +kernel
theorem dX6_init_48 : decode cX6_init 48 = .ok (.aload_n 0, 1) := by decide +kernel
theorem dX6_init_49 : decode cX6_init 49 = .ok (.iconst 2, 1) := by decide +kernel
theorem dX6_init_50 : decode cX6_init 50 = .ok (.anewarray 33, 3) := by decide +kernel
theorem dX6_init_53 : decode cX6_init 53 = .ok (.putfield 35, 3) := by decide +kernel
theorem dX6_init_56 : decode cX6_init 56 = .ok (.iconst 0, 1) := by decide +kernel
theorem dX6_init_57 : decode cX6_init 57 = .ok (.istore_n 1, 1) := by decide +kernel
theorem dX6_init_58 : decode cX6_init 58 = .ok (.iload_n 1, 1) := by decide +kernel
theorem dX6_init_59 : decode cX6_init 59 = .ok (.aload_n 0, 1) := by decide +kernel
theorem dX6_init_60 : decode cX6_init 60 = .ok (.getfield 35, 3) := by decide +kernel
theorem dX6_init_63 : decode cX6_init 63 = .ok (.arraylength, 1) := by decide +kernel
theorem dX6_init_64 : decode cX6_init 64 = .ok (.if_icmp .ge 22, 3) := by decide +kernel
theorem dX6_init_67 : decode cX6_init 67 = .ok (.aload_n 0, 1) := by decide +kernel
theorem dX6_init_68 : decode cX6_init 68 = .ok (.getfield 35, 3) := by decide +kernel
theorem dX6_init_71 : decode cX6_init 71 = .ok (.iload_n 1, 1) := by decide +kernel
theorem dX6_init_72 : decode cX6_init 72 = .ok (.new 33, 3) := by decide +kernel
theorem dX6_init_75 : decode cX6_init 75 = .ok (.dup, 1) := by decide +kernel
theorem dX6_init_76 : decode cX6_init 76 = .ok (.invokespecial 39, 3) := by decide +kernel
theorem dX6_init_79 : decode cX6_init 79 = .ok (.aastore, 1) := by decide +kernel
theorem dX6_init_80 : decode cX6_init 80 = .ok (.iinc 1 1, 3) := by decide +kernel
theorem dX6_init_83 : decode cX6_init 83 = .ok (.goto (-25), 3) := by decide +kernel
theorem dX6_init_86 : decode cX6_init 86 = .ok (.return_, 1) := by decide +kernel
theorem dX6_sell_0 : decode cX6_sell 0 = .ok (.aload_n 0, 1) := by decide +kernel
theorem dX6_sell_1 : decode cX6_sell 1 = .ok (.getfield 10, 3) := by decide +kernel
theorem dX6_sell_4 : decode cX6_sell 4 = .ok (.iload_n 1, 1) := by decide +kernel
theorem dX6_sell_5 : decode cX6_sell 5 = .ok (.invokevirtual 40, 3) := by decide +kernel
theorem dX6_sell_8 : decode cX6_sell 8 = .ok (.istore_n 2, 1) := by decide +kernel
theorem dX6_sell_9 : decode cX6_sell 9 = .ok (.iload_n 2, 1) := by decide +kernel
theorem dX6_sell_10 : decode cX6_sell 10 = .ok (.ifCond .eq 5, 3) := by decide +kernel
theorem dX6_sell_13 : decode cX6_sell 13 = .ok (.iload_n 2, 1) := by decide +kernel
theorem dX6_sell_14 : decode cX6_sell 14 = .ok (.ireturn, 1) := by decide +kernel
theorem dX6_sell_15 : decode cX6_sell 15 = .ok (.aload_n 0, 1) := by decide +kernel
theorem dX6_sell_16 : decode cX6_sell 16 = .ok (.getfield 29, 3) := by decide +kernel
theorem dX6_sell_19 : decode cX6_sell 19 = .ok (.aload_n 0, 1) := by decide +kernel
theorem dX6_sell_20 : decode cX6_sell 20 = .ok (.getfield 10, 3) := by decide +kernel
theorem dX6_sell_23 : decode cX6_sell 23 = .ok (.invokevirtual 44, 3) := by decide +kernel
theorem dX6_sell_26 : decode cX6_sell 26 = .ok (.aload_n 0, 1) := by decide +kernel
theorem dX6_sell_27 : decode cX6_sell 27 = .ok (.getfield 10, 3) := by decide +kernel
theorem dX6_sell_30 : decode cX6_sell 30 = .ok (.iload_n 1, 1) := by decide +kernel
theorem dX6_sell_31 : decode cX6_sell 31 = .ok (.invokevirtual 48, 3) := by decide +kernel
theorem dX6_sell_34 : decode cX6_sell 34 = .ok (.ireturn, 1) := by decide +kernel
theorem dX6_cancel_0 : decode cX6_cancel 0 = .ok (.aload_n 0, 1) := by decide +kernel
theorem dX6_cancel_1 : decode cX6_cancel 1 = .ok (.getfield 10, 3) := by decide +kernel
theorem dX6_cancel_4 : decode cX6_cancel 4 = .ok (.getfield 51, 3) := by decide +kernel
theorem dX6_cancel_7 : decode cX6_cancel 7 = .ok (.ifCond .eq 13, 3) := by decide +kernel
theorem dX6_cancel_10 : decode cX6_cancel 10 = .ok (.aload_n 0, 1) := by decide +kernel
theorem dX6_cancel_11 : decode cX6_cancel 11 = .ok (.getfield 10, 3) := by decide +kernel
theorem dX6_cancel_14 : decode cX6_cancel 14 = .ok (.invokevirtual 55, 3) := by decide +kernel
theorem dX6_cancel_17 : decode cX6_cancel 17 = .ok (.ifCond .ne 6, 3) := by decide +kernel
theorem dX6_cancel_20 : decode cX6_cancel 20 = .ok (.bipush (-2), 2) := by decide +kernel
theorem dX6_cancel_22 : decode cX6_cancel 22 = .ok (.ireturn, 1) := by decide +kernel
theorem dX6_cancel_23 : decode cX6_cancel 23 = .ok (.aload_n 0, 1) := by decide +kernel
theorem dX6_cancel_24 : decode cX6_cancel 24 = .ok (.getfield 29, 3) := by decide +kernel
theorem dX6_cancel_27 : decode cX6_cancel 27 = .ok (.aload_n 0, 1) := by decide +kernel
theorem dX6_cancel_28 : decode cX6_cancel 28 = .ok (.getfield 10, 3) := by decide +kernel
theorem dX6_cancel_31 : decode cX6_cancel 31 = .ok (.invokevirtual 44, 3) := by decide +kernel
theorem dX6_cancel_34 : decode cX6_cancel 34 = .ok (.aload_n 0, 1) := by decide +kernel
theorem dX6_cancel_35 : decode cX6_cancel 35 = .ok (.getfield 10, 3) := by decide +kernel
theorem dX6_cancel_38 : decode cX6_cancel 38 = .ok (.invokevirtual 59, 3) := by decide +kernel
theorem dX6_cancel_41 : decode cX6_cancel 41 = .ok (.ireturn, 1) := by decide +kernel
theorem dX6_close_0 : decode cX6_close 0 = .ok (.aload_n 0, 1) := by decide +kernel
theorem dX6_close_1 : decode cX6_close 1 = .ok (.getfield 10, 3) := by decide +kernel
theorem dX6_close_4 : decode cX6_close 4 = .ok (.getfield 51, 3) := by decide +kernel
theorem dX6_close_7 : decode cX6_close 7 = .ok (.ifCond .ne 6, 3) := by decide +kernel
theorem dX6_close_10 : decode cX6_close 10 = .ok (.bipush (-2), 2) := by decide +kernel
theorem dX6_close_12 : decode cX6_close 12 = .ok (.ireturn, 1) := by decide +kernel
theorem dX6_close_13 : decode cX6_close 13 = .ok (.aload_n 0, 1) := by decide +kernel
theorem dX6_close_14 : decode cX6_close 14 = .ok (.getfield 29, 3) := by decide +kernel
theorem dX6_close_17 : decode cX6_close 17 = .ok (.aload_n 0, 1) := by decide +kernel
theorem dX6_close_18 : decode cX6_close 18 = .ok (.getfield 10, 3) := by decide +kernel
theorem dX6_close_21 : decode cX6_close 21 = .ok (.invokevirtual 44, 3) := by decide +kernel
theorem dX6_close_24 : decode cX6_close 24 = .ok (.aload_n 0, 1) := by decide +kernel
theorem dX6_close_25 : decode cX6_close 25 = .ok (.getfield 10, 3) := by decide +kernel
theorem dX6_close_28 : decode cX6_close 28 = .ok (.invokevirtual 63, 3) := by decide +kernel
theorem dX6_close_31 : decode cX6_close 31 = .ok (.ireturn, 1) := by decide +kernel
theorem dX6_load_0 : decode cX6_load 0 = .ok (.iload_n 1, 1) := by decide +kernel
theorem dX6_load_1 : decode cX6_load 1 = .ok (.iconst 0, 1) := by decide +kernel
theorem dX6_load_2 : decode cX6_load 2 = .ok (.ldc 66, 2) := by decide +kernel
theorem dX6_load_4 : decode cX6_load 4 = .ok (.invokestatic 67, 3) := by decide +kernel
theorem dX6_load_7 : decode cX6_load 7 = .ok (.ifCond .eq 13, 3) := by decide +kernel
theorem dX6_load_10 : decode cX6_load 10 = .ok (.iload_n 2, 1) := by decide +kernel
theorem dX6_load_11 : decode cX6_load 11 = .ok (.iconst 0, 1) := by decide +kernel
theorem dX6_load_12 : decode cX6_load 12 = .ok (.ldc 66, 2) := by decide +kernel
theorem dX6_load_14 : decode cX6_load 14 = .ok (.invokestatic 67, 3) := by decide +kernel
theorem dX6_load_17 : decode cX6_load 17 = .ok (.ifCond .ne 5, 3) := by decide +kernel
theorem dX6_load_20 : decode cX6_load 20 = .ok (.iconst (-1), 1) := by decide +kernel
theorem dX6_load_21 : decode cX6_load 21 = .ok (.ireturn, 1) := by decide +kernel
theorem dX6_load_22 : decode cX6_load 22 = .ok (.aload_n 0, 1) := by decide +kernel
theorem dX6_load_23 : decode cX6_load 23 = .ok (.getfield 10, 3) := by decide +kernel
theorem dX6_load_26 : decode cX6_load 26 = .ok (.getfield 51, 3) := by decide +kernel
theorem dX6_load_29 : decode cX6_load 29 = .ok (.ifCond .ne 6, 3) := by decide +kernel
theorem dX6_load_32 : decode cX6_load 32 = .ok (.bipush (-2), 2) := by decide +kernel
theorem dX6_load_34 : decode cX6_load 34 = .ok (.ireturn, 1) := by decide +kernel
theorem dX6_load_35 : decode cX6_load 35 = .ok (.aload_n 0, 1) := by decide +kernel
theorem dX6_load_36 : decode cX6_load 36 = .ok (.getfield 29, 3) := by decide +kernel
theorem dX6_load_39 : decode cX6_load 39 = .ok (.aload_n 0, 1) := by decide +kernel
theorem dX6_load_40 : decode cX6_load 40 = .ok (.getfield 10, 3) := by decide +kernel
theorem dX6_load_43 : decode cX6_load 43 = .ok (.invokevirtual 44, 3) := by decide +kernel
theorem dX6_load_46 : decode cX6_load 46 = .ok (.aload_n 0, 1) := by decide +kernel
theorem dX6_load_47 : decode cX6_load 47 = .ok (.getfield 10, 3) := by decide +kernel
theorem dX6_load_50 : decode cX6_load 50 = .ok (.iload_n 1, 1) := by decide +kernel
theorem dX6_load_51 : decode cX6_load 51 = .ok (.iload_n 2, 1) := by decide +kernel
theorem dX6_load_52 : decode cX6_load 52 = .ok (.invokevirtual 71, 3) := by decide +kernel
theorem dX6_load_55 : decode cX6_load 55 = .ok (.ireturn, 1) := by decide +kernel
theorem dX6_setClock_0 : decode cX6_setClock 0 = .ok (.iload_n 1, 1) := by decide +kernel
theorem dX6_setClock_1 : decode cX6_setClock 1 = .ok (.iconst 0, 1) := by decide +kernel
theorem dX6_setClock_2 : decode cX6_setClock 2 = .ok (.ldc 75, 2) := by decide +kernel
theorem dX6_setClock_4 : decode cX6_setClock 4 = .ok (.invokestatic 67, 3) := by decide +kernel
theorem dX6_setClock_7 : decode cX6_setClock 7 = .ok (.ifCond .ne 5, 3) := by decide +kernel
theorem dX6_setClock_10 : decode cX6_setClock 10 = .ok (.iconst (-1), 1) := by decide +kernel
theorem dX6_setClock_11 : decode cX6_setClock 11 = .ok (.ireturn, 1) := by decide +kernel
theorem dX6_setClock_12 : decode cX6_setClock 12 = .ok (.aload_n 0, 1) := by decide +kernel
theorem dX6_setClock_13 : decode cX6_setClock 13 = .ok (.getfield 10, 3) := by decide +kernel
theorem dX6_setClock_16 : decode cX6_setClock 16 = .ok (.getfield 51, 3) := by decide +kernel
theorem dX6_setClock_19 : decode cX6_setClock 19 = .ok (.ifCond .ne 6, 3) := by decide +kernel
theorem dX6_setClock_22 : decode cX6_setClock 22 = .ok (.bipush (-2), 2) := by decide +kernel
theorem dX6_setClock_24 : decode cX6_setClock 24 = .ok (.ireturn, 1) := by decide +kernel
theorem dX6_setClock_25 : decode cX6_setClock 25 = .ok (.aload_n 0, 1) := by decide +kernel
theorem dX6_setClock_26 : decode cX6_setClock 26 = .ok (.getfield 29, 3) := by decide +kernel
theorem dX6_setClock_29 : decode cX6_setClock 29 = .ok (.aload_n 0, 1) := by decide +kernel
theorem dX6_setClock_30 : decode cX6_setClock 30 = .ok (.getfield 10, 3) := by decide +kernel
theorem dX6_setClock_33 : decode cX6_setClock 33 = .ok (.invokevirtual 44, 3) := by decide +kernel
theorem dX6_setClock_36 : decode cX6_setClock 36 = .ok (.aload_n 0, 1) := by decide +kernel
theorem dX6_setClock_37 : decode cX6_setClock 37 = .ok (.getfield 10, 3) := by decide +kernel
theorem dX6_setClock_40 : decode cX6_setClock 40 = .ok (.iload_n 1, 1) := by decide +kernel
theorem dX6_setClock_41 : decode cX6_setClock 41 = .ok (.invokevirtual 76, 3) := by decide +kernel
theorem dX6_setClock_44 : decode cX6_setClock 44 = .ok (.ireturn, 1) := by decide +kernel
theorem dX6_pass_0 : decode cX6_pass 0 = .ok (.iload_n 1, 1) := by decide +kernel
theorem dX6_pass_1 : decode cX6_pass 1 = .ok (.iconst 1, 1) := by decide +kernel
theorem dX6_pass_2 : decode cX6_pass 2 = .ok (.sipush 5000, 3) := by decide +kernel
theorem dX6_pass_5 : decode cX6_pass 5 = .ok (.invokestatic 67, 3) := by decide +kernel
theorem dX6_pass_8 : decode cX6_pass 8 = .ok (.ifCond .ne 5, 3) := by decide +kernel
theorem dX6_pass_11 : decode cX6_pass 11 = .ok (.iconst (-1), 1) := by decide +kernel
theorem dX6_pass_12 : decode cX6_pass 12 = .ok (.ireturn, 1) := by decide +kernel
theorem dX6_pass_13 : decode cX6_pass 13 = .ok (.aload_n 0, 1) := by decide +kernel
theorem dX6_pass_14 : decode cX6_pass 14 = .ok (.getfield 29, 3) := by decide +kernel
theorem dX6_pass_17 : decode cX6_pass 17 = .ok (.aload_n 0, 1) := by decide +kernel
theorem dX6_pass_18 : decode cX6_pass 18 = .ok (.getfield 10, 3) := by decide +kernel
theorem dX6_pass_21 : decode cX6_pass 21 = .ok (.invokevirtual 44, 3) := by decide +kernel
theorem dX6_pass_24 : decode cX6_pass 24 = .ok (.aload_n 0, 1) := by decide +kernel
theorem dX6_pass_25 : decode cX6_pass 25 = .ok (.getfield 10, 3) := by decide +kernel
theorem dX6_pass_28 : decode cX6_pass 28 = .ok (.aload_n 0, 1) := by decide +kernel
theorem dX6_pass_29 : decode cX6_pass 29 = .ok (.getfield 10, 3) := by decide +kernel
theorem dX6_pass_32 : decode cX6_pass 32 = .ok (.getfield 79, 3) := by decide +kernel
theorem dX6_pass_35 : decode cX6_pass 35 = .ok (.iload_n 1, 1) := by decide +kernel
theorem dX6_pass_36 : decode cX6_pass 36 = .ok (.iadd, 1) := by decide +kernel
theorem dX6_pass_37 : decode cX6_pass 37 = .ok (.ldc 75, 2) := by decide +kernel
theorem dX6_pass_39 : decode cX6_pass 39 = .ok (.invokestatic 83, 3) := by decide +kernel
theorem dX6_pass_42 : decode cX6_pass 42 = .ok (.putfield 79, 3) := by decide +kernel
theorem dX6_pass_45 : decode cX6_pass 45 = .ok (.aload_n 0, 1) := by decide +kernel
theorem dX6_pass_46 : decode cX6_pass 46 = .ok (.getfield 10, 3) := by decide +kernel
theorem dX6_pass_49 : decode cX6_pass 49 = .ok (.getfield 79, 3) := by decide +kernel
theorem dX6_pass_52 : decode cX6_pass 52 = .ok (.ireturn, 1) := by decide +kernel
theorem dX6_setPrice_0 : decode cX6_setPrice 0 = .ok (.iload_n 1, 1) := by decide +kernel
theorem dX6_setPrice_1 : decode cX6_setPrice 1 = .ok (.invokestatic 88, 3) := by decide +kernel
theorem dX6_setPrice_4 : decode cX6_setPrice 4 = .ok (.ifCond .eq 14, 3) := by decide +kernel
theorem dX6_setPrice_7 : decode cX6_setPrice 7 = .ok (.iload_n 2, 1) := by decide +kernel
theorem dX6_setPrice_8 : decode cX6_setPrice 8 = .ok (.iconst 1, 1) := by decide +kernel
theorem dX6_setPrice_9 : decode cX6_setPrice 9 = .ok (.sipush 999, 3) := by decide +kernel
theorem dX6_setPrice_12 : decode cX6_setPrice 12 = .ok (.invokestatic 67, 3) := by decide +kernel
theorem dX6_setPrice_15 : decode cX6_setPrice 15 = .ok (.ifCond .ne 5, 3) := by decide +kernel
theorem dX6_setPrice_18 : decode cX6_setPrice 18 = .ok (.iconst (-1), 1) := by decide +kernel
theorem dX6_setPrice_19 : decode cX6_setPrice 19 = .ok (.ireturn, 1) := by decide +kernel
theorem dX6_setPrice_20 : decode cX6_setPrice 20 = .ok (.aload_n 0, 1) := by decide +kernel
theorem dX6_setPrice_21 : decode cX6_setPrice 21 = .ok (.getfield 29, 3) := by decide +kernel
theorem dX6_setPrice_24 : decode cX6_setPrice 24 = .ok (.aload_n 0, 1) := by decide +kernel
theorem dX6_setPrice_25 : decode cX6_setPrice 25 = .ok (.getfield 10, 3) := by decide +kernel
theorem dX6_setPrice_28 : decode cX6_setPrice 28 = .ok (.invokevirtual 44, 3) := by decide +kernel
theorem dX6_setPrice_31 : decode cX6_setPrice 31 = .ok (.aload_n 0, 1) := by decide +kernel
theorem dX6_setPrice_32 : decode cX6_setPrice 32 = .ok (.getfield 10, 3) := by decide +kernel
theorem dX6_setPrice_35 : decode cX6_setPrice 35 = .ok (.iload_n 1, 1) := by decide +kernel
theorem dX6_setPrice_36 : decode cX6_setPrice 36 = .ok (.invokevirtual 92, 3) := by decide +kernel
theorem dX6_setPrice_39 : decode cX6_setPrice 39 = .ok (.istore_n 3, 1) := by decide +kernel
theorem dX6_setPrice_40 : decode cX6_setPrice 40 = .ok (.aload_n 0, 1) := by decide +kernel
theorem dX6_setPrice_41 : decode cX6_setPrice 41 = .ok (.getfield 10, 3) := by decide +kernel
theorem dX6_setPrice_44 : decode cX6_setPrice 44 = .ok (.iload_n 1, 1) := by decide +kernel
theorem dX6_setPrice_45 : decode cX6_setPrice 45 = .ok (.iload_n 2, 1) := by decide +kernel
theorem dX6_setPrice_46 : decode cX6_setPrice 46 = .ok (.invokevirtual 95, 3) := by decide +kernel
theorem dX6_setPrice_49 : decode cX6_setPrice 49 = .ok (.iload_n 3, 1) := by decide +kernel
theorem dX6_setPrice_50 : decode cX6_setPrice 50 = .ok (.ireturn, 1) := by decide +kernel
theorem dX6_cut_0 : decode cX6_cut 0 = .ok (.iload_n 1, 1) := by decide +kernel
theorem dX6_cut_1 : decode cX6_cut 1 = .ok (.iconst (-1), 1) := by decide +kernel
theorem dX6_cut_2 : decode cX6_cut 2 = .ok (.bipush 100, 2) := by decide +kernel
theorem dX6_cut_4 : decode cX6_cut 4 = .ok (.invokestatic 67, 3) := by decide +kernel
theorem dX6_cut_7 : decode cX6_cut 7 = .ok (.ifCond .ne 5, 3) := by decide +kernel
theorem dX6_cut_10 : decode cX6_cut 10 = .ok (.iconst (-1), 1) := by decide +kernel
theorem dX6_cut_11 : decode cX6_cut 11 = .ok (.ireturn, 1) := by decide +kernel
theorem dX6_cut_12 : decode cX6_cut 12 = .ok (.aload_n 0, 1) := by decide +kernel
theorem dX6_cut_13 : decode cX6_cut 13 = .ok (.getfield 29, 3) := by decide +kernel
theorem dX6_cut_16 : decode cX6_cut 16 = .ok (.aload_n 0, 1) := by decide +kernel
theorem dX6_cut_17 : decode cX6_cut 17 = .ok (.getfield 10, 3) := by decide +kernel
theorem dX6_cut_20 : decode cX6_cut 20 = .ok (.invokevirtual 44, 3) := by decide +kernel
theorem dX6_cut_23 : decode cX6_cut 23 = .ok (.aload_n 0, 1) := by decide +kernel
theorem dX6_cut_24 : decode cX6_cut 24 = .ok (.getfield 10, 3) := by decide +kernel
theorem dX6_cut_27 : decode cX6_cut 27 = .ok (.getfield 99, 3) := by decide +kernel
theorem dX6_cut_30 : decode cX6_cut 30 = .ok (.getfield 103, 3) := by decide +kernel
theorem dX6_cut_33 : decode cX6_cut 33 = .ok (.istore_n 2, 1) := by decide +kernel
theorem dX6_cut_34 : decode cX6_cut 34 = .ok (.aload_n 0, 1) := by decide +kernel
theorem dX6_cut_35 : decode cX6_cut 35 = .ok (.getfield 10, 3) := by decide +kernel
theorem dX6_cut_38 : decode cX6_cut 38 = .ok (.getfield 99, 3) := by decide +kernel
theorem dX6_cut_41 : decode cX6_cut 41 = .ok (.iload_n 1, 1) := by decide +kernel
theorem dX6_cut_42 : decode cX6_cut 42 = .ok (.ifCond .ge 8, 3) := by decide +kernel
theorem dX6_cut_45 : decode cX6_cut 45 = .ok (.bipush (-9), 2) := by decide +kernel
theorem dX6_cut_47 : decode cX6_cut 47 = .ok (.goto 4, 3) := by decide +kernel
theorem dX6_cut_50 : decode cX6_cut 50 = .ok (.iload_n 1, 1) := by decide +kernel
theorem dX6_cut_51 : decode cX6_cut 51 = .ok (.putfield 103, 3) := by decide +kernel
theorem dX6_cut_54 : decode cX6_cut 54 = .ok (.iload_n 2, 1) := by decide +kernel
theorem dX6_cut_55 : decode cX6_cut 55 = .ok (.ireturn, 1) := by decide +kernel
theorem dX6_off_0 : decode cX6_off 0 = .ok (.aload_n 0, 1) := by decide +kernel
theorem dX6_off_1 : decode cX6_off 1 = .ok (.getfield 10, 3) := by decide +kernel
theorem dX6_off_4 : decode cX6_off 4 = .ok (.getfield 51, 3) := by decide +kernel
theorem dX6_off_7 : decode cX6_off 7 = .ok (.ifCond .ne 6, 3) := by decide +kernel
theorem dX6_off_10 : decode cX6_off 10 = .ok (.bipush (-2), 2) := by decide +kernel
theorem dX6_off_12 : decode cX6_off 12 = .ok (.ireturn, 1) := by decide +kernel
theorem dX6_off_13 : decode cX6_off 13 = .ok (.aload_n 0, 1) := by decide +kernel
theorem dX6_off_14 : decode cX6_off 14 = .ok (.getfield 29, 3) := by decide +kernel
theorem dX6_off_17 : decode cX6_off 17 = .ok (.aload_n 0, 1) := by decide +kernel
theorem dX6_off_18 : decode cX6_off 18 = .ok (.getfield 10, 3) := by decide +kernel
theorem dX6_off_21 : decode cX6_off 21 = .ok (.invokevirtual 44, 3) := by decide +kernel
theorem dX6_off_24 : decode cX6_off 24 = .ok (.aload_n 0, 1) := by decide +kernel
theorem dX6_off_25 : decode cX6_off 25 = .ok (.getfield 10, 3) := by decide +kernel
theorem dX6_off_28 : decode cX6_off 28 = .ok (.invokevirtual 108, 3) := by decide +kernel
theorem dX6_off_31 : decode cX6_off 31 = .ok (.aload_n 0, 1) := by decide +kernel
theorem dX6_off_32 : decode cX6_off 32 = .ok (.getfield 10, 3) := by decide +kernel
theorem dX6_off_35 : decode cX6_off 35 = .ok (.getfield 99, 3) := by decide +kernel
theorem dX6_off_38 : decode cX6_off 38 = .ok (.iconst 1, 1) := by decide +kernel
theorem dX6_off_39 : decode cX6_off 39 = .ok (.invokevirtual 111, 3) := by decide +kernel
theorem dX6_off_42 : decode cX6_off 42 = .ok (.ireturn, 1) := by decide +kernel
theorem dX6_start_0 : decode cX6_start 0 = .ok (.aload_n 0, 1) := by decide +kernel
theorem dX6_start_1 : decode cX6_start 1 = .ok (.getfield 10, 3) := by decide +kernel
theorem dX6_start_4 : decode cX6_start 4 = .ok (.getfield 51, 3) := by decide +kernel
theorem dX6_start_7 : decode cX6_start 7 = .ok (.ifCond .eq 6, 3) := by decide +kernel
theorem dX6_start_10 : decode cX6_start 10 = .ok (.bipush (-2), 2) := by decide +kernel
theorem dX6_start_12 : decode cX6_start 12 = .ok (.ireturn, 1) := by decide +kernel
theorem dX6_start_13 : decode cX6_start 13 = .ok (.aload_n 0, 1) := by decide +kernel
theorem dX6_start_14 : decode cX6_start 14 = .ok (.getfield 29, 3) := by decide +kernel
theorem dX6_start_17 : decode cX6_start 17 = .ok (.aload_n 0, 1) := by decide +kernel
theorem dX6_start_18 : decode cX6_start 18 = .ok (.getfield 10, 3) := by decide +kernel
theorem dX6_start_21 : decode cX6_start 21 = .ok (.invokevirtual 44, 3) := by decide +kernel
theorem dX6_start_24 : decode cX6_start 24 = .ok (.aload_n 0, 1) := by decide +kernel
theorem dX6_start_25 : decode cX6_start 25 = .ok (.getfield 10, 3) := by decide +kernel
theorem dX6_start_28 : decode cX6_start 28 = .ok (.invokevirtual 114, 3) := by decide +kernel
theorem dX6_start_31 : decode cX6_start 31 = .ok (.aload_n 0, 1) := by decide +kernel
theorem dX6_start_32 : decode cX6_start 32 = .ok (.getfield 10, 3) := by decide +kernel
theorem dX6_start_35 : decode cX6_start 35 = .ok (.getfield 117, 3) := by decide +kernel
theorem dX6_start_38 : decode cX6_start 38 = .ok (.getfield 121, 3) := by decide +kernel
theorem dX6_start_41 : decode cX6_start 41 = .ok (.ireturn, 1) := by decide +kernel
theorem dX6_undo_0 : decode cX6_undo 0 = .ok (.aload_n 0, 1) := by decide +kernel
theorem dX6_undo_1 : decode cX6_undo 1 = .ok (.getfield 29, 3) := by decide +kernel
theorem dX6_undo_4 : decode cX6_undo 4 = .ok (.getfield 126, 3) := by decide +kernel
theorem dX6_undo_7 : decode cX6_undo 7 = .ok (.ifCond .ne 6, 3) := by decide +kernel
theorem dX6_undo_10 : decode cX6_undo 10 = .ok (.bipush (-2), 2) := by decide +kernel
theorem dX6_undo_12 : decode cX6_undo 12 = .ok (.ireturn, 1) := by decide +kernel
theorem dX6_undo_13 : decode cX6_undo 13 = .ok (.aload_n 0, 1) := by decide +kernel
theorem dX6_undo_14 : decode cX6_undo 14 = .ok (.getfield 29, 3) := by decide +kernel
theorem dX6_undo_17 : decode cX6_undo 17 = .ok (.aload_n 0, 1) := by decide +kernel
theorem dX6_undo_18 : decode cX6_undo 18 = .ok (.getfield 10, 3) := by decide +kernel
theorem dX6_undo_21 : decode cX6_undo 21 = .ok (.invokevirtual 129, 3) := by decide +kernel
theorem dX6_undo_24 : decode cX6_undo 24 = .ok (.aload_n 0, 1) := by decide +kernel
theorem dX6_undo_25 : decode cX6_undo 25 = .ok (.getfield 29, 3) := by decide +kernel
theorem dX6_undo_28 : decode cX6_undo 28 = .ok (.getfield 126, 3) := by decide +kernel
theorem dX6_undo_31 : decode cX6_undo 31 = .ok (.ireturn, 1) := by decide +kernel
theorem dX6_told_0 : decode cX6_told 0 = .ok (.iload_n 1, 1) := by decide +kernel
theorem dX6_told_1 : decode cX6_told 1 = .ok (.tableswitch 137 0 12 #[67, 83, 137, 137, 137, 137, 137, 137, 91, 99, 107, 118, 129], 67) := by decide +kernel
theorem dX6_told_68 : decode cX6_told 68 = .ok (.aload_n 0, 1) := by decide +kernel
theorem dX6_told_69 : decode cX6_told 69 = .ok (.getfield 10, 3) := by decide +kernel
theorem dX6_told_72 : decode cX6_told 72 = .ok (.getfield 51, 3) := by decide +kernel
theorem dX6_told_75 : decode cX6_told 75 = .ok (.ifCond .eq 7, 3) := by decide +kernel
theorem dX6_told_78 : decode cX6_told 78 = .ok (.iconst 1, 1) := by decide +kernel
theorem dX6_told_79 : decode cX6_told 79 = .ok (.goto 4, 3) := by decide +kernel
theorem dX6_told_82 : decode cX6_told 82 = .ok (.iconst 0, 1) := by decide +kernel
theorem dX6_told_83 : decode cX6_told 83 = .ok (.ireturn, 1) := by decide +kernel
theorem dX6_told_84 : decode cX6_told 84 = .ok (.aload_n 0, 1) := by decide +kernel
theorem dX6_told_85 : decode cX6_told 85 = .ok (.getfield 10, 3) := by decide +kernel
theorem dX6_told_88 : decode cX6_told 88 = .ok (.getfield 79, 3) := by decide +kernel
theorem dX6_told_91 : decode cX6_told 91 = .ok (.ireturn, 1) := by decide +kernel
theorem dX6_told_92 : decode cX6_told 92 = .ok (.aload_n 0, 1) := by decide +kernel
theorem dX6_told_93 : decode cX6_told 93 = .ok (.getfield 10, 3) := by decide +kernel
theorem dX6_told_96 : decode cX6_told 96 = .ok (.getfield 132, 3) := by decide +kernel
theorem dX6_told_99 : decode cX6_told 99 = .ok (.ireturn, 1) := by decide +kernel
theorem dX6_told_100 : decode cX6_told 100 = .ok (.aload_n 0, 1) := by decide +kernel
theorem dX6_told_101 : decode cX6_told 101 = .ok (.getfield 10, 3) := by decide +kernel
theorem dX6_told_104 : decode cX6_told 104 = .ok (.getfield 135, 3) := by decide +kernel
theorem dX6_told_107 : decode cX6_told 107 = .ok (.ireturn, 1) := by decide +kernel
theorem dX6_told_108 : decode cX6_told 108 = .ok (.aload_n 0, 1) := by decide +kernel
theorem dX6_told_109 : decode cX6_told 109 = .ok (.getfield 10, 3) := by decide +kernel
theorem dX6_told_112 : decode cX6_told 112 = .ok (.getfield 99, 3) := by decide +kernel
theorem dX6_told_115 : decode cX6_told 115 = .ok (.getfield 138, 3) := by decide +kernel
theorem dX6_told_118 : decode cX6_told 118 = .ok (.ireturn, 1) := by decide +kernel
theorem dX6_told_119 : decode cX6_told 119 = .ok (.aload_n 0, 1) := by decide +kernel
theorem dX6_told_120 : decode cX6_told 120 = .ok (.getfield 10, 3) := by decide +kernel
theorem dX6_told_123 : decode cX6_told 123 = .ok (.getfield 99, 3) := by decide +kernel
theorem dX6_told_126 : decode cX6_told 126 = .ok (.getfield 103, 3) := by decide +kernel
theorem dX6_told_129 : decode cX6_told 129 = .ok (.ireturn, 1) := by decide +kernel
theorem dX6_told_130 : decode cX6_told 130 = .ok (.aload_n 0, 1) := by decide +kernel
theorem dX6_told_131 : decode cX6_told 131 = .ok (.getfield 29, 3) := by decide +kernel
theorem dX6_told_134 : decode cX6_told 134 = .ok (.getfield 126, 3) := by decide +kernel
theorem dX6_told_137 : decode cX6_told 137 = .ok (.ireturn, 1) := by decide +kernel
theorem dX6_told_138 : decode cX6_told 138 = .ok (.iload_n 1, 1) := by decide +kernel
theorem dX6_told_139 : decode cX6_told 139 = .ok (.iconst 2, 1) := by decide +kernel
theorem dX6_told_140 : decode cX6_told 140 = .ok (.bipush 7, 2) := by decide +kernel
theorem dX6_told_142 : decode cX6_told 142 = .ok (.invokestatic 67, 3) := by decide +kernel
theorem dX6_told_145 : decode cX6_told 145 = .ok (.ifCond .eq 11, 3) := by decide +kernel
theorem dX6_told_148 : decode cX6_told 148 = .ok (.aload_n 0, 1) := by decide +kernel
theorem dX6_told_149 : decode cX6_told 149 = .ok (.iload_n 1, 1) := by decide +kernel
theorem dX6_told_150 : decode cX6_told 150 = .ok (.invokevirtual 141, 3) := by decide +kernel
theorem dX6_told_153 : decode cX6_told 153 = .ok (.goto 4, 3) := by decide +kernel
theorem dX6_told_156 : decode cX6_told 156 = .ok (.iconst (-1), 1) := by decide +kernel
theorem dX6_told_157 : decode cX6_told 157 = .ok (.ireturn, 1) := by decide +kernel
theorem dX6_knownNumber_0 : decode cX6_knownNumber 0 = .ok (.aload_n 0, 1) := by decide +kernel
theorem dX6_knownNumber_1 : decode cX6_knownNumber 1 = .ok (.getfield 10, 3) := by decide +kernel
theorem dX6_knownNumber_4 : decode cX6_knownNumber 4 = .ok (.getfield 51, 3) := by decide +kernel
theorem dX6_knownNumber_7 : decode cX6_knownNumber 7 = .ok (.ifCond .ne 6, 3) := by decide +kernel
theorem dX6_knownNumber_10 : decode cX6_knownNumber 10 = .ok (.bipush (-9), 2) := by decide +kernel
theorem dX6_knownNumber_12 : decode cX6_knownNumber 12 = .ok (.ireturn, 1) := by decide +kernel
theorem dX6_knownNumber_13 : decode cX6_knownNumber 13 = .ok (.iload_n 1, 1) := by decide +kernel
theorem dX6_knownNumber_14 : decode cX6_knownNumber 14 = .ok (.tableswitch 89 2 6 #[34, 45, 56, 67, 78], 34) := by decide +kernel
theorem dX6_knownNumber_48 : decode cX6_knownNumber 48 = .ok (.aload_n 0, 1) := by decide +kernel
theorem dX6_knownNumber_49 : decode cX6_knownNumber 49 = .ok (.getfield 10, 3) := by decide +kernel
theorem dX6_knownNumber_52 : decode cX6_knownNumber 52 = .ok (.getfield 117, 3) := by decide +kernel
theorem dX6_knownNumber_55 : decode cX6_knownNumber 55 = .ok (.getfield 121, 3) := by decide +kernel
theorem dX6_knownNumber_58 : decode cX6_knownNumber 58 = .ok (.ireturn, 1) := by decide +kernel
theorem dX6_knownNumber_59 : decode cX6_knownNumber 59 = .ok (.aload_n 0, 1) := by decide +kernel
theorem dX6_knownNumber_60 : decode cX6_knownNumber 60 = .ok (.getfield 10, 3) := by decide +kernel
theorem dX6_knownNumber_63 : decode cX6_knownNumber 63 = .ok (.getfield 117, 3) := by decide +kernel
theorem dX6_knownNumber_66 : decode cX6_knownNumber 66 = .ok (.getfield 144, 3) := by decide +kernel
theorem dX6_knownNumber_69 : decode cX6_knownNumber 69 = .ok (.ireturn, 1) := by decide +kernel
theorem dX6_knownNumber_70 : decode cX6_knownNumber 70 = .ok (.aload_n 0, 1) := by decide +kernel
theorem dX6_knownNumber_71 : decode cX6_knownNumber 71 = .ok (.getfield 10, 3) := by decide +kernel
theorem dX6_knownNumber_74 : decode cX6_knownNumber 74 = .ok (.getfield 117, 3) := by decide +kernel
theorem dX6_knownNumber_77 : decode cX6_knownNumber 77 = .ok (.getfield 147, 3) := by decide +kernel
theorem dX6_knownNumber_80 : decode cX6_knownNumber 80 = .ok (.ireturn, 1) := by decide +kernel
theorem dX6_knownNumber_81 : decode cX6_knownNumber 81 = .ok (.aload_n 0, 1) := by decide +kernel
theorem dX6_knownNumber_82 : decode cX6_knownNumber 82 = .ok (.getfield 10, 3) := by decide +kernel
theorem dX6_knownNumber_85 : decode cX6_knownNumber 85 = .ok (.getfield 117, 3) := by decide +kernel
theorem dX6_knownNumber_88 : decode cX6_knownNumber 88 = .ok (.getfield 150, 3) := by decide +kernel
theorem dX6_knownNumber_91 : decode cX6_knownNumber 91 = .ok (.ireturn, 1) := by decide +kernel
theorem dX6_knownNumber_92 : decode cX6_knownNumber 92 = .ok (.aload_n 0, 1) := by decide +kernel
theorem dX6_knownNumber_93 : decode cX6_knownNumber 93 = .ok (.getfield 10, 3) := by decide +kernel
theorem dX6_knownNumber_96 : decode cX6_knownNumber 96 = .ok (.getfield 117, 3) := by decide +kernel
theorem dX6_knownNumber_99 : decode cX6_knownNumber 99 = .ok (.getfield 153, 3) := by decide +kernel
theorem dX6_knownNumber_102 : decode cX6_knownNumber 102 = .ok (.ireturn, 1) := by decide +kernel
theorem dX6_knownNumber_103 : decode cX6_knownNumber 103 = .ok (.aload_n 0, 1) := by decide +kernel
theorem dX6_knownNumber_104 : decode cX6_knownNumber 104 = .ok (.getfield 10, 3) := by decide +kernel
theorem dX6_knownNumber_107 : decode cX6_knownNumber 107 = .ok (.getfield 117, 3) := by decide +kernel
theorem dX6_knownNumber_110 : decode cX6_knownNumber 110 = .ok (.getfield 156, 3) := by decide +kernel
theorem dX6_knownNumber_113 : decode cX6_knownNumber 113 = .ok (.ireturn, 1) := by decide +kernel
theorem dX6_word_0 : decode cX6_word 0 = .ok (.iload_n 1, 1) := by decide +kernel
theorem dX6_word_1 : decode cX6_word 1 = .ok (.invokestatic 159, 3) := by decide +kernel
theorem dX6_word_4 : decode cX6_word 4 = .ok (.ifCond .eq 28, 3) := by decide +kernel
theorem dX6_word_7 : decode cX6_word 7 = .ok (.iload_n 2, 1) := by decide +kernel
theorem dX6_word_8 : decode cX6_word 8 = .ok (.iconst 0, 1) := by decide +kernel
theorem dX6_word_9 : decode cX6_word 9 = .ok (.bipush 21, 2) := by decide +kernel
theorem dX6_word_11 : decode cX6_word 11 = .ok (.invokestatic 67, 3) := by decide +kernel
theorem dX6_word_14 : decode cX6_word 14 = .ok (.ifCond .eq 18, 3) := by decide +kernel
theorem dX6_word_17 : decode cX6_word 17 = .ok (.aload_n 0, 1) := by decide +kernel
theorem dX6_word_18 : decode cX6_word 18 = .ok (.getfield 10, 3) := by decide +kernel
theorem dX6_word_21 : decode cX6_word 21 = .ok (.getfield 99, 3) := by decide +kernel
theorem dX6_word_24 : decode cX6_word 24 = .ok (.iload_n 1, 1) := by decide +kernel
theorem dX6_word_25 : decode cX6_word 25 = .ok (.iload_n 2, 1) := by decide +kernel
theorem dX6_word_26 : decode cX6_word 26 = .ok (.invokevirtual 162, 3) := by decide +kernel
theorem dX6_word_29 : decode cX6_word 29 = .ok (.goto 4, 3) := by decide +kernel
theorem dX6_word_32 : decode cX6_word 32 = .ok (.iconst (-1), 1) := by decide +kernel
theorem dX6_word_33 : decode cX6_word 33 = .ok (.ireturn, 1) := by decide +kernel
theorem dX6_block_0 : decode cX6_block 0 = .ok (.iload_n 1, 1) := by decide +kernel
theorem dX6_block_1 : decode cX6_block 1 = .ok (.invokestatic 159, 3) := by decide +kernel
theorem dX6_block_4 : decode cX6_block 4 = .ok (.ifCond .ne 5, 3) := by decide +kernel
theorem dX6_block_7 : decode cX6_block 7 = .ok (.iconst (-1), 1) := by decide +kernel
theorem dX6_block_8 : decode cX6_block 8 = .ok (.ireturn, 1) := by decide +kernel
theorem dX6_block_9 : decode cX6_block 9 = .ok (.aload_n 0, 1) := by decide +kernel
theorem dX6_block_10 : decode cX6_block 10 = .ok (.getfield 10, 3) := by decide +kernel
theorem dX6_block_13 : decode cX6_block 13 = .ok (.getfield 99, 3) := by decide +kernel
theorem dX6_block_16 : decode cX6_block 16 = .ok (.astore_n 3, 1) := by decide +kernel
theorem dX6_block_17 : decode cX6_block 17 = .ok (.iload_n 2, 1) := by decide +kernel
theorem dX6_block_18 : decode cX6_block 18 = .ok (.tableswitch 88 0 4 #[34, 48, 68, 75, 82], 34) := by decide +kernel
theorem dX6_block_52 : decode cX6_block 52 = .ok (.aload_n 3, 1) := by decide +kernel
theorem dX6_block_53 : decode cX6_block 53 = .ok (.iload_n 1, 1) := by decide +kernel
theorem dX6_block_54 : decode cX6_block 54 = .ok (.invokevirtual 165, 3) := by decide +kernel
theorem dX6_block_57 : decode cX6_block 57 = .ok (.ifCond .eq 7, 3) := by decide +kernel
theorem dX6_block_60 : decode cX6_block 60 = .ok (.iconst 1, 1) := by decide +kernel
theorem dX6_block_61 : decode cX6_block 61 = .ok (.goto 4, 3) := by decide +kernel
theorem dX6_block_64 : decode cX6_block 64 = .ok (.iconst 0, 1) := by decide +kernel
theorem dX6_block_65 : decode cX6_block 65 = .ok (.ireturn, 1) := by decide +kernel
theorem dX6_block_66 : decode cX6_block 66 = .ok (.aload_n 3, 1) := by decide +kernel
theorem dX6_block_67 : decode cX6_block 67 = .ok (.iload_n 1, 1) := by decide +kernel
theorem dX6_block_68 : decode cX6_block 68 = .ok (.invokevirtual 165, 3) := by decide +kernel
theorem dX6_block_71 : decode cX6_block 71 = .ok (.ifCond .eq 12, 3) := by decide +kernel
theorem dX6_block_74 : decode cX6_block 74 = .ok (.aload_n 3, 1) := by decide +kernel
theorem dX6_block_75 : decode cX6_block 75 = .ok (.iload_n 1, 1) := by decide +kernel
theorem dX6_block_76 : decode cX6_block 76 = .ok (.iconst 0, 1) := by decide +kernel
theorem dX6_block_77 : decode cX6_block 77 = .ok (.invokevirtual 162, 3) := by decide +kernel
theorem dX6_block_80 : decode cX6_block 80 = .ok (.goto 5, 3) := by decide +kernel
theorem dX6_block_83 : decode cX6_block 83 = .ok (.bipush (-9), 2) := by decide +kernel
theorem dX6_block_85 : decode cX6_block 85 = .ok (.ireturn, 1) := by decide +kernel
theorem dX6_block_86 : decode cX6_block 86 = .ok (.aload_n 3, 1) := by decide +kernel
theorem dX6_block_87 : decode cX6_block 87 = .ok (.iload_n 1, 1) := by decide +kernel
theorem dX6_block_88 : decode cX6_block 88 = .ok (.iconst 1, 1) := by decide +kernel
theorem dX6_block_89 : decode cX6_block 89 = .ok (.invokevirtual 168, 3) := by decide +kernel
theorem dX6_block_92 : decode cX6_block 92 = .ok (.ireturn, 1) := by decide +kernel
theorem dX6_block_93 : decode cX6_block 93 = .ok (.aload_n 3, 1) := by decide +kernel
theorem dX6_block_94 : decode cX6_block 94 = .ok (.iload_n 1, 1) := by decide +kernel
theorem dX6_block_95 : decode cX6_block 95 = .ok (.iconst 2, 1) := by decide +kernel
theorem dX6_block_96 : decode cX6_block 96 = .ok (.invokevirtual 168, 3) := by decide +kernel
theorem dX6_block_99 : decode cX6_block 99 = .ok (.ireturn, 1) := by decide +kernel
theorem dX6_block_100 : decode cX6_block 100 = .ok (.aload_n 3, 1) := by decide +kernel
theorem dX6_block_101 : decode cX6_block 101 = .ok (.iload_n 1, 1) := by decide +kernel
theorem dX6_block_102 : decode cX6_block 102 = .ok (.invokevirtual 171, 3) := by decide +kernel
theorem dX6_block_105 : decode cX6_block 105 = .ok (.ireturn, 1) := by decide +kernel
theorem dX6_block_106 : decode cX6_block 106 = .ok (.iconst (-1), 1) := by decide +kernel
theorem dX6_block_107 : decode cX6_block 107 = .ok (.ireturn, 1) := by decide +kernel
theorem dX6_records_0 : decode cX6_records 0 = .ok (.iload_n 1, 1) := by decide +kernel
theorem dX6_records_1 : decode cX6_records 1 = .ok (.lookupswitch 51 #[(-2, 27), (-1, 39)], 27) := by decide +kernel
theorem dX6_records_28 : decode cX6_records 28 = .ok (.aload_n 0, 1) := by decide +kernel
theorem dX6_records_29 : decode cX6_records 29 = .ok (.getfield 10, 3) := by decide +kernel
theorem dX6_records_32 : decode cX6_records 32 = .ok (.getfield 99, 3) := by decide +kernel
theorem dX6_records_35 : decode cX6_records 35 = .ok (.iconst 2, 1) := by decide +kernel
theorem dX6_records_36 : decode cX6_records 36 = .ok (.invokevirtual 111, 3) := by decide +kernel
theorem dX6_records_39 : decode cX6_records 39 = .ok (.ireturn, 1) := by decide +kernel
theorem dX6_records_40 : decode cX6_records 40 = .ok (.aload_n 0, 1) := by decide +kernel
theorem dX6_records_41 : decode cX6_records 41 = .ok (.getfield 10, 3) := by decide +kernel
theorem dX6_records_44 : decode cX6_records 44 = .ok (.getfield 99, 3) := by decide +kernel
theorem dX6_records_47 : decode cX6_records 47 = .ok (.iconst 1, 1) := by decide +kernel
theorem dX6_records_48 : decode cX6_records 48 = .ok (.invokevirtual 111, 3) := by decide +kernel
theorem dX6_records_51 : decode cX6_records 51 = .ok (.ireturn, 1) := by decide +kernel
theorem dX6_records_52 : decode cX6_records 52 = .ok (.iload_n 1, 1) := by decide +kernel
theorem dX6_records_53 : decode cX6_records 53 = .ok (.iconst 0, 1) := by decide +kernel
theorem dX6_records_54 : decode cX6_records 54 = .ok (.iconst 4, 1) := by decide +kernel
theorem dX6_records_55 : decode cX6_records 55 = .ok (.invokestatic 67, 3) := by decide +kernel
theorem dX6_records_58 : decode cX6_records 58 = .ok (.ifCond .eq 24, 3) := by decide +kernel
theorem dX6_records_61 : decode cX6_records 61 = .ok (.aload_n 0, 1) := by decide +kernel
theorem dX6_records_62 : decode cX6_records 62 = .ok (.getfield 22, 3) := by decide +kernel
theorem dX6_records_65 : decode cX6_records 65 = .ok (.aload_n 0, 1) := by decide +kernel
theorem dX6_records_66 : decode cX6_records 66 = .ok (.getfield 10, 3) := by decide +kernel
theorem dX6_records_69 : decode cX6_records 69 = .ok (.getfield 99, 3) := by decide +kernel
theorem dX6_records_72 : decode cX6_records 72 = .ok (.invokevirtual 174, 3) := by decide +kernel
theorem dX6_records_75 : decode cX6_records 75 = .ok (.iload_n 1, 1) := by decide +kernel
theorem dX6_records_76 : decode cX6_records 76 = .ok (.invokevirtual 178, 3) := by decide +kernel
theorem dX6_records_79 : decode cX6_records 79 = .ok (.goto 4, 3) := by decide +kernel
theorem dX6_records_82 : decode cX6_records 82 = .ok (.iconst (-1), 1) := by decide +kernel
theorem dX6_records_83 : decode cX6_records 83 = .ok (.ireturn, 1) := by decide +kernel
theorem dX6_record_0 : decode cX6_record 0 = .ok (.iload_n 1, 1) := by decide +kernel
theorem dX6_record_1 : decode cX6_record 1 = .ok (.ifCond .lt 12, 3) := by decide +kernel
theorem dX6_record_4 : decode cX6_record 4 = .ok (.iload_n 2, 1) := by decide +kernel
theorem dX6_record_5 : decode cX6_record 5 = .ok (.iconst 0, 1) := by decide +kernel
theorem dX6_record_6 : decode cX6_record 6 = .ok (.iconst 5, 1) := by decide +kernel
theorem dX6_record_7 : decode cX6_record 7 = .ok (.invokestatic 67, 3) := by decide +kernel
theorem dX6_record_10 : decode cX6_record 10 = .ok (.ifCond .ne 5, 3) := by decide +kernel
theorem dX6_record_13 : decode cX6_record 13 = .ok (.iconst (-1), 1) := by decide +kernel
theorem dX6_record_14 : decode cX6_record 14 = .ok (.ireturn, 1) := by decide +kernel
theorem dX6_record_15 : decode cX6_record 15 = .ok (.aload_n 0, 1) := by decide +kernel
theorem dX6_record_16 : decode cX6_record 16 = .ok (.getfield 22, 3) := by decide +kernel
theorem dX6_record_19 : decode cX6_record 19 = .ok (.aload_n 0, 1) := by decide +kernel
theorem dX6_record_20 : decode cX6_record 20 = .ok (.getfield 10, 3) := by decide +kernel
theorem dX6_record_23 : decode cX6_record 23 = .ok (.getfield 99, 3) := by decide +kernel
theorem dX6_record_26 : decode cX6_record 26 = .ok (.invokevirtual 174, 3) := by decide +kernel
theorem dX6_record_29 : decode cX6_record 29 = .ok (.iload_n 1, 1) := by decide +kernel
theorem dX6_record_30 : decode cX6_record 30 = .ok (.iload_n 2, 1) := by decide +kernel
theorem dX6_record_31 : decode cX6_record 31 = .ok (.invokevirtual 181, 3) := by decide +kernel
theorem dX6_record_34 : decode cX6_record 34 = .ok (.ireturn, 1) := by decide +kernel
theorem dX6_takings_0 : decode cX6_takings 0 = .ok (.iload_n 1, 1) := by decide +kernel
theorem dX6_takings_1 : decode cX6_takings 1 = .ok (.iconst (-1), 1) := by decide +kernel
theorem dX6_takings_2 : decode cX6_takings 2 = .ok (.if_icmp .eq 12, 3) := by decide +kernel
theorem dX6_takings_5 : decode cX6_takings 5 = .ok (.iload_n 1, 1) := by decide +kernel
theorem dX6_takings_6 : decode cX6_takings 6 = .ok (.invokestatic 88, 3) := by decide +kernel
theorem dX6_takings_9 : decode cX6_takings 9 = .ok (.ifCond .ne 5, 3) := by decide +kernel
theorem dX6_takings_12 : decode cX6_takings 12 = .ok (.iconst (-1), 1) := by decide +kernel
theorem dX6_takings_13 : decode cX6_takings 13 = .ok (.ireturn, 1) := by decide +kernel
theorem dX6_takings_14 : decode cX6_takings 14 = .ok (.aload_n 0, 1) := by decide +kernel
theorem dX6_takings_15 : decode cX6_takings 15 = .ok (.getfield 22, 3) := by decide +kernel
theorem dX6_takings_18 : decode cX6_takings 18 = .ok (.aload_n 0, 1) := by decide +kernel
theorem dX6_takings_19 : decode cX6_takings 19 = .ok (.getfield 10, 3) := by decide +kernel
theorem dX6_takings_22 : decode cX6_takings 22 = .ok (.getfield 99, 3) := by decide +kernel
theorem dX6_takings_25 : decode cX6_takings 25 = .ok (.invokevirtual 174, 3) := by decide +kernel
theorem dX6_takings_28 : decode cX6_takings 28 = .ok (.astore_n 2, 1) := by decide +kernel
theorem dX6_takings_29 : decode cX6_takings 29 = .ok (.aload_n 2, 1) := by decide +kernel
theorem dX6_takings_30 : decode cX6_takings 30 = .ok (.iconst 0, 1) := by decide +kernel
theorem dX6_takings_31 : decode cX6_takings 31 = .ok (.iload_n 1, 1) := by decide +kernel
theorem dX6_takings_32 : decode cX6_takings 32 = .ok (.invokevirtual 184, 3) := by decide +kernel
theorem dX6_takings_35 : decode cX6_takings 35 = .ok (.aload_n 2, 1) := by decide +kernel
theorem dX6_takings_36 : decode cX6_takings 36 = .ok (.iconst 1, 1) := by decide +kernel
theorem dX6_takings_37 : decode cX6_takings 37 = .ok (.iload_n 1, 1) := by decide +kernel
theorem dX6_takings_38 : decode cX6_takings 38 = .ok (.invokevirtual 184, 3) := by decide +kernel
theorem dX6_takings_41 : decode cX6_takings 41 = .ok (.isub, 1) := by decide +kernel
theorem dX6_takings_42 : decode cX6_takings 42 = .ok (.ireturn, 1) := by decide +kernel
theorem dX6_mean_0 : decode cX6_mean 0 = .ok (.aload_n 0, 1) := by decide +kernel
theorem dX6_mean_1 : decode cX6_mean 1 = .ok (.getfield 22, 3) := by decide +kernel
theorem dX6_mean_4 : decode cX6_mean 4 = .ok (.aload_n 0, 1) := by decide +kernel
theorem dX6_mean_5 : decode cX6_mean 5 = .ok (.getfield 10, 3) := by decide +kernel
theorem dX6_mean_8 : decode cX6_mean 8 = .ok (.getfield 99, 3) := by decide +kernel
theorem dX6_mean_11 : decode cX6_mean 11 = .ok (.invokevirtual 174, 3) := by decide +kernel
theorem dX6_mean_14 : decode cX6_mean 14 = .ok (.astore_n 1, 1) := by decide +kernel
theorem dX6_mean_15 : decode cX6_mean 15 = .ok (.aload_n 1, 1) := by decide +kernel
theorem dX6_mean_16 : decode cX6_mean 16 = .ok (.iconst 0, 1) := by decide +kernel
theorem dX6_mean_17 : decode cX6_mean 17 = .ok (.invokevirtual 178, 3) := by decide +kernel
theorem dX6_mean_20 : decode cX6_mean 20 = .ok (.istore_n 2, 1) := by decide +kernel
theorem dX6_mean_21 : decode cX6_mean 21 = .ok (.iload_n 2, 1) := by decide +kernel
theorem dX6_mean_22 : decode cX6_mean 22 = .ok (.ifCond .ne 7, 3) := by decide +kernel
theorem dX6_mean_25 : decode cX6_mean 25 = .ok (.fconst 0, 1) := by decide +kernel
theorem dX6_mean_26 : decode cX6_mean 26 = .ok (.goto 13, 3) := by decide +kernel
theorem dX6_mean_29 : decode cX6_mean 29 = .ok (.aload_n 1, 1) := by decide +kernel
theorem dX6_mean_30 : decode cX6_mean 30 = .ok (.iconst 0, 1) := by decide +kernel
theorem dX6_mean_31 : decode cX6_mean 31 = .ok (.iconst (-1), 1) := by decide +kernel
theorem dX6_mean_32 : decode cX6_mean 32 = .ok (.invokevirtual 184, 3) := by decide +kernel
theorem dX6_mean_35 : decode cX6_mean 35 = .ok (.i2f, 1) := by decide +kernel
theorem dX6_mean_36 : decode cX6_mean 36 = .ok (.iload_n 2, 1) := by decide +kernel
theorem dX6_mean_37 : decode cX6_mean 37 = .ok (.i2f, 1) := by decide +kernel
theorem dX6_mean_38 : decode cX6_mean 38 = .ok (.fdiv, 1) := by decide +kernel
theorem dX6_mean_39 : decode cX6_mean 39 = .ok (.freturn, 1) := by decide +kernel
theorem dX6_operations_0 : decode cX6_operations 0 = .ok (.aload_n 0, 1) := by decide +kernel
theorem dX6_operations_1 : decode cX6_operations 1 = .ok (.getfield 10, 3) := by decide +kernel
theorem dX6_operations_4 : decode cX6_operations 4 = .ok (.iload_n 1, 1) := by decide +kernel
theorem dX6_operations_5 : decode cX6_operations 5 = .ok (.invokevirtual 40, 3) := by decide +kernel
theorem dX6_operations_8 : decode cX6_operations 8 = .ok (.istore_n 2, 1) := by decide +kernel
theorem dX6_operations_9 : decode cX6_operations 9 = .ok (.iload_n 2, 1) := by decide +kernel
theorem dX6_operations_10 : decode cX6_operations 10 = .ok (.ifCond .eq 5, 3) := by decide +kernel
theorem dX6_operations_13 : decode cX6_operations 13 = .ok (.iload_n 2, 1) := by decide +kernel
theorem dX6_operations_14 : decode cX6_operations 14 = .ok (.ireturn, 1) := by decide +kernel
theorem dX6_operations_15 : decode cX6_operations 15 = .ok (.aload_n 0, 1) := by decide +kernel
theorem dX6_operations_16 : decode cX6_operations 16 = .ok (.iload_n 1, 1) := by decide +kernel
theorem dX6_operations_17 : decode cX6_operations 17 = .ok (.bipush (-9), 2) := by decide +kernel
theorem dX6_operations_19 : decode cX6_operations 19 = .ok (.invokevirtual 196, 3) := by decide +kernel
theorem dX6_operations_22 : decode cX6_operations 22 = .ok (.aload_n 0, 1) := by decide +kernel
theorem dX6_operations_23 : decode cX6_operations 23 = .ok (.getfield 16, 3) := by decide +kernel
theorem dX6_operations_26 : decode cX6_operations 26 = .ok (.getfield 99, 3) := by decide +kernel
theorem dX6_operations_29 : decode cX6_operations 29 = .ok (.getfield 138, 3) := by decide +kernel
theorem dX6_operations_32 : decode cX6_operations 32 = .ok (.aload_n 0, 1) := by decide +kernel
theorem dX6_operations_33 : decode cX6_operations 33 = .ok (.getfield 10, 3) := by decide +kernel
theorem dX6_operations_36 : decode cX6_operations 36 = .ok (.getfield 99, 3) := by decide +kernel
theorem dX6_operations_39 : decode cX6_operations 39 = .ok (.getfield 138, 3) := by decide +kernel
theorem dX6_operations_42 : decode cX6_operations 42 = .ok (.isub, 1) := by decide +kernel
theorem dX6_operations_43 : decode cX6_operations 43 = .ok (.ireturn, 1) := by decide +kernel
theorem dX6_after_0 : decode cX6_after 0 = .ok (.iload_n 2, 1) := by decide +kernel
theorem dX6_after_1 : decode cX6_after 1 = .ok (.iconst 0, 1) := by decide +kernel
theorem dX6_after_2 : decode cX6_after 2 = .ok (.bipush 30, 2) := by decide +kernel
theorem dX6_after_4 : decode cX6_after 4 = .ok (.invokestatic 67, 3) := by decide +kernel
theorem dX6_after_7 : decode cX6_after 7 = .ok (.ifCond .eq 12, 3) := by decide +kernel
theorem dX6_after_10 : decode cX6_after 10 = .ok (.iload_n 3, 1) := by decide +kernel
theorem dX6_after_11 : decode cX6_after 11 = .ok (.iconst 0, 1) := by decide +kernel
theorem dX6_after_12 : decode cX6_after 12 = .ok (.iconst 4, 1) := by decide +kernel
theorem dX6_after_13 : decode cX6_after 13 = .ok (.invokestatic 67, 3) := by decide +kernel
theorem dX6_after_16 : decode cX6_after 16 = .ok (.ifCond .ne 5, 3) := by decide +kernel
theorem dX6_after_19 : decode cX6_after 19 = .ok (.iconst (-1), 1) := by decide +kernel
theorem dX6_after_20 : decode cX6_after 20 = .ok (.ireturn, 1) := by decide +kernel
theorem dX6_after_21 : decode cX6_after 21 = .ok (.aload_n 0, 1) := by decide +kernel
theorem dX6_after_22 : decode cX6_after 22 = .ok (.getfield 10, 3) := by decide +kernel
theorem dX6_after_25 : decode cX6_after 25 = .ok (.iload_n 1, 1) := by decide +kernel
theorem dX6_after_26 : decode cX6_after 26 = .ok (.invokevirtual 40, 3) := by decide +kernel
theorem dX6_after_29 : decode cX6_after 29 = .ok (.istore 4, 2) := by decide +kernel
theorem dX6_after_31 : decode cX6_after 31 = .ok (.iload 4, 2) := by decide +kernel
theorem dX6_after_33 : decode cX6_after 33 = .ok (.ifCond .eq 6, 3) := by decide +kernel
theorem dX6_after_36 : decode cX6_after 36 = .ok (.iload 4, 2) := by decide +kernel
theorem dX6_after_38 : decode cX6_after 38 = .ok (.ireturn, 1) := by decide +kernel
theorem dX6_after_39 : decode cX6_after 39 = .ok (.aload_n 0, 1) := by decide +kernel
theorem dX6_after_40 : decode cX6_after 40 = .ok (.iload_n 1, 1) := by decide +kernel
theorem dX6_after_41 : decode cX6_after 41 = .ok (.iload_n 2, 1) := by decide +kernel
theorem dX6_after_42 : decode cX6_after 42 = .ok (.invokevirtual 196, 3) := by decide +kernel
theorem dX6_after_45 : decode cX6_after 45 = .ok (.aload_n 0, 1) := by decide +kernel
theorem dX6_after_46 : decode cX6_after 46 = .ok (.getfield 16, 3) := by decide +kernel
theorem dX6_after_49 : decode cX6_after 49 = .ok (.getfield 51, 3) := by decide +kernel
theorem dX6_after_52 : decode cX6_after 52 = .ok (.ifCond .ne 10, 3) := by decide +kernel
theorem dX6_after_55 : decode cX6_after 55 = .ok (.aload_n 0, 1) := by decide +kernel
theorem dX6_after_56 : decode cX6_after 56 = .ok (.getfield 16, 3) := by decide +kernel
theorem dX6_after_59 : decode cX6_after 59 = .ok (.invokevirtual 114, 3) := by decide +kernel
theorem dX6_after_62 : decode cX6_after 62 = .ok (.iload_n 3, 1) := by decide +kernel
theorem dX6_after_63 : decode cX6_after 63 = .ok (.tableswitch 75 0 3 #[29, 41, 53, 64], 29) := by decide +kernel
theorem dX6_after_92 : decode cX6_after 92 = .ok (.aload_n 0, 1) := by decide +kernel
theorem dX6_after_93 : decode cX6_after 93 = .ok (.getfield 16, 3) := by decide +kernel
theorem dX6_after_96 : decode cX6_after 96 = .ok (.getfield 99, 3) := by decide +kernel
theorem dX6_after_99 : decode cX6_after 99 = .ok (.iconst 1, 1) := by decide +kernel
theorem dX6_after_100 : decode cX6_after 100 = .ok (.invokevirtual 111, 3) := by decide +kernel
theorem dX6_after_103 : decode cX6_after 103 = .ok (.ireturn, 1) := by decide +kernel
theorem dX6_after_104 : decode cX6_after 104 = .ok (.aload_n 0, 1) := by decide +kernel
theorem dX6_after_105 : decode cX6_after 105 = .ok (.getfield 16, 3) := by decide +kernel
theorem dX6_after_108 : decode cX6_after 108 = .ok (.getfield 99, 3) := by decide +kernel
theorem dX6_after_111 : decode cX6_after 111 = .ok (.iconst 2, 1) := by decide +kernel
theorem dX6_after_112 : decode cX6_after 112 = .ok (.invokevirtual 111, 3) := by decide +kernel
theorem dX6_after_115 : decode cX6_after 115 = .ok (.ireturn, 1) := by decide +kernel
theorem dX6_after_116 : decode cX6_after 116 = .ok (.aload_n 0, 1) := by decide +kernel
theorem dX6_after_117 : decode cX6_after 117 = .ok (.getfield 16, 3) := by decide +kernel
theorem dX6_after_120 : decode cX6_after 120 = .ok (.getfield 117, 3) := by decide +kernel
theorem dX6_after_123 : decode cX6_after 123 = .ok (.getfield 121, 3) := by decide +kernel
theorem dX6_after_126 : decode cX6_after 126 = .ok (.ireturn, 1) := by decide +kernel
theorem dX6_after_127 : decode cX6_after 127 = .ok (.aload_n 0, 1) := by decide +kernel
theorem dX6_after_128 : decode cX6_after 128 = .ok (.getfield 16, 3) := by decide +kernel
theorem dX6_after_131 : decode cX6_after 131 = .ok (.getfield 117, 3) := by decide +kernel
theorem dX6_after_134 : decode cX6_after 134 = .ok (.getfield 144, 3) := by decide +kernel
theorem dX6_after_137 : decode cX6_after 137 = .ok (.ireturn, 1) := by decide +kernel
theorem dX6_after_138 : decode cX6_after 138 = .ok (.aload_n 0, 1) := by decide +kernel
theorem dX6_after_139 : decode cX6_after 139 = .ok (.getfield 16, 3) := by decide +kernel
theorem dX6_after_142 : decode cX6_after 142 = .ok (.getfield 117, 3) := by decide +kernel
theorem dX6_after_145 : decode cX6_after 145 = .ok (.getfield 153, 3) := by decide +kernel
theorem dX6_after_148 : decode cX6_after 148 = .ok (.ireturn, 1) := by decide +kernel
theorem dX6_needed_0 : decode cX6_needed 0 = .ok (.aload_n 0, 1) := by decide +kernel
theorem dX6_needed_1 : decode cX6_needed 1 = .ok (.getfield 10, 3) := by decide +kernel
theorem dX6_needed_4 : decode cX6_needed 4 = .ok (.iload_n 1, 1) := by decide +kernel
theorem dX6_needed_5 : decode cX6_needed 5 = .ok (.invokevirtual 40, 3) := by decide +kernel
theorem dX6_needed_8 : decode cX6_needed 8 = .ok (.istore_n 2, 1) := by decide +kernel
theorem dX6_needed_9 : decode cX6_needed 9 = .ok (.iload_n 2, 1) := by decide +kernel
theorem dX6_needed_10 : decode cX6_needed 10 = .ok (.ifCond .eq 5, 3) := by decide +kernel
theorem dX6_needed_13 : decode cX6_needed 13 = .ok (.iload_n 2, 1) := by decide +kernel
theorem dX6_needed_14 : decode cX6_needed 14 = .ok (.ireturn, 1) := by decide +kernel
theorem dX6_needed_15 : decode cX6_needed 15 = .ok (.aload_n 0, 1) := by decide +kernel
theorem dX6_needed_16 : decode cX6_needed 16 = .ok (.getfield 10, 3) := by decide +kernel
theorem dX6_needed_19 : decode cX6_needed 19 = .ok (.getfield 117, 3) := by decide +kernel
theorem dX6_needed_22 : decode cX6_needed 22 = .ok (.getfield 156, 3) := by decide +kernel
theorem dX6_needed_25 : decode cX6_needed 25 = .ok (.iconst 4, 1) := by decide +kernel
theorem dX6_needed_26 : decode cX6_needed 26 = .ok (.if_icmp .ne 8, 3) := by decide +kernel
theorem dX6_needed_29 : decode cX6_needed 29 = .ok (.bipush 11, 2) := by decide +kernel
theorem dX6_needed_31 : decode cX6_needed 31 = .ok (.goto 4, 3) := by decide +kernel
theorem dX6_needed_34 : decode cX6_needed 34 = .ok (.iconst 4, 1) := by decide +kernel
theorem dX6_needed_35 : decode cX6_needed 35 = .ok (.ireturn, 1) := by decide +kernel
theorem dX6_trySale_0 : decode cX6_trySale 0 = .ok (.aload_n 0, 1) := by decide +kernel
theorem dX6_trySale_1 : decode cX6_trySale 1 = .ok (.getfield 16, 3) := by decide +kernel
theorem dX6_trySale_4 : decode cX6_trySale 4 = .ok (.aload_n 0, 1) := by decide +kernel
theorem dX6_trySale_5 : decode cX6_trySale 5 = .ok (.getfield 10, 3) := by decide +kernel
theorem dX6_trySale_8 : decode cX6_trySale 8 = .ok (.invokevirtual 199, 3) := by decide +kernel
theorem dX6_trySale_11 : decode cX6_trySale 11 = .ok (.aload_n 0, 1) := by decide +kernel
theorem dX6_trySale_12 : decode cX6_trySale 12 = .ok (.getfield 16, 3) := by decide +kernel
theorem dX6_trySale_15 : decode cX6_trySale 15 = .ok (.getfield 99, 3) := by decide +kernel
theorem dX6_trySale_18 : decode cX6_trySale 18 = .ok (.iload_n 2, 1) := by decide +kernel
theorem dX6_trySale_19 : decode cX6_trySale 19 = .ok (.putfield 103, 3) := by decide +kernel
theorem dX6_trySale_22 : decode cX6_trySale 22 = .ok (.aload_n 0, 1) := by decide +kernel
theorem dX6_trySale_23 : decode cX6_trySale 23 = .ok (.getfield 16, 3) := by decide +kernel
theorem dX6_trySale_26 : decode cX6_trySale 26 = .ok (.iload_n 1, 1) := by decide +kernel
theorem dX6_trySale_27 : decode cX6_trySale 27 = .ok (.invokevirtual 48, 3) := by decide +kernel
theorem dX6_trySale_30 : decode cX6_trySale 30 = .ok (.pop, 1) := by decide +kernel
theorem dX6_trySale_31 : decode cX6_trySale 31 = .ok (.return_, 1) := by decide +kernel
theorem dX6_keep_0 : decode cX6_keep 0 = .ok (.aload_n 0, 1) := by decide +kernel
theorem dX6_keep_1 : decode cX6_keep 1 = .ok (.iload_n 1, 1) := by decide +kernel
theorem dX6_keep_2 : decode cX6_keep 2 = .ok (.invokevirtual 202, 3) := by decide +kernel
theorem dX6_keep_5 : decode cX6_keep 5 = .ok (.ifCond .ne 5, 3) := by decide +kernel
theorem dX6_keep_8 : decode cX6_keep 8 = .ok (.iconst (-1), 1) := by decide +kernel
theorem dX6_keep_9 : decode cX6_keep 9 = .ok (.ireturn, 1) := by decide +kernel
theorem dX6_keep_10 : decode cX6_keep 10 = .ok (.aload_n 0, 1) := by decide +kernel
theorem dX6_keep_11 : decode cX6_keep 11 = .ok (.getfield 35, 3) := by decide +kernel
theorem dX6_keep_14 : decode cX6_keep 14 = .ok (.iload_n 1, 1) := by decide +kernel
theorem dX6_keep_15 : decode cX6_keep 15 = .ok (.aaload, 1) := by decide +kernel
theorem dX6_keep_16 : decode cX6_keep 16 = .ok (.aload_n 0, 1) := by decide +kernel
theorem dX6_keep_17 : decode cX6_keep 17 = .ok (.getfield 10, 3) := by decide +kernel
theorem dX6_keep_20 : decode cX6_keep 20 = .ok (.invokevirtual 205, 3) := by decide +kernel
theorem dX6_keep_23 : decode cX6_keep 23 = .ok (.aload_n 0, 1) := by decide +kernel
theorem dX6_keep_24 : decode cX6_keep 24 = .ok (.getfield 10, 3) := by decide +kernel
theorem dX6_keep_27 : decode cX6_keep 27 = .ok (.getfield 99, 3) := by decide +kernel
theorem dX6_keep_30 : decode cX6_keep 30 = .ok (.iconst 1, 1) := by decide +kernel
theorem dX6_keep_31 : decode cX6_keep 31 = .ok (.invokevirtual 111, 3) := by decide +kernel
theorem dX6_keep_34 : decode cX6_keep 34 = .ok (.ireturn, 1) := by decide +kernel
theorem dX6_back_0 : decode cX6_back 0 = .ok (.aload_n 0, 1) := by decide +kernel
theorem dX6_back_1 : decode cX6_back 1 = .ok (.iload_n 1, 1) := by decide +kernel
theorem dX6_back_2 : decode cX6_back 2 = .ok (.invokevirtual 202, 3) := by decide +kernel
theorem dX6_back_5 : decode cX6_back 5 = .ok (.ifCond .ne 5, 3) := by decide +kernel
theorem dX6_back_8 : decode cX6_back 8 = .ok (.iconst (-1), 1) := by decide +kernel
theorem dX6_back_9 : decode cX6_back 9 = .ok (.ireturn, 1) := by decide +kernel
theorem dX6_back_10 : decode cX6_back 10 = .ok (.aload_n 0, 1) := by decide +kernel
theorem dX6_back_11 : decode cX6_back 11 = .ok (.getfield 35, 3) := by decide +kernel
theorem dX6_back_14 : decode cX6_back 14 = .ok (.iload_n 1, 1) := by decide +kernel
theorem dX6_back_15 : decode cX6_back 15 = .ok (.aaload, 1) := by decide +kernel
theorem dX6_back_16 : decode cX6_back 16 = .ok (.getfield 208, 3) := by decide +kernel
theorem dX6_back_19 : decode cX6_back 19 = .ok (.ifCond .ne 6, 3) := by decide +kernel
theorem dX6_back_22 : decode cX6_back 22 = .ok (.bipush (-2), 2) := by decide +kernel
theorem dX6_back_24 : decode cX6_back 24 = .ok (.ireturn, 1) := by decide +kernel
theorem dX6_back_25 : decode cX6_back 25 = .ok (.aload_n 0, 1) := by decide +kernel
theorem dX6_back_26 : decode cX6_back 26 = .ok (.getfield 29, 3) := by decide +kernel
theorem dX6_back_29 : decode cX6_back 29 = .ok (.aload_n 0, 1) := by decide +kernel
theorem dX6_back_30 : decode cX6_back 30 = .ok (.getfield 10, 3) := by decide +kernel
theorem dX6_back_33 : decode cX6_back 33 = .ok (.invokevirtual 44, 3) := by decide +kernel
theorem dX6_back_36 : decode cX6_back 36 = .ok (.aload_n 0, 1) := by decide +kernel
theorem dX6_back_37 : decode cX6_back 37 = .ok (.getfield 10, 3) := by decide +kernel
theorem dX6_back_40 : decode cX6_back 40 = .ok (.aload_n 0, 1) := by decide +kernel
theorem dX6_back_41 : decode cX6_back 41 = .ok (.getfield 35, 3) := by decide +kernel
theorem dX6_back_44 : decode cX6_back 44 = .ok (.iload_n 1, 1) := by decide +kernel
theorem dX6_back_45 : decode cX6_back 45 = .ok (.aaload, 1) := by decide +kernel
theorem dX6_back_46 : decode cX6_back 46 = .ok (.getfield 211, 3) := by decide +kernel
theorem dX6_back_49 : decode cX6_back 49 = .ok (.invokevirtual 199, 3) := by decide +kernel
theorem dX6_back_52 : decode cX6_back 52 = .ok (.aload_n 0, 1) := by decide +kernel
theorem dX6_back_53 : decode cX6_back 53 = .ok (.getfield 10, 3) := by decide +kernel
theorem dX6_back_56 : decode cX6_back 56 = .ok (.getfield 99, 3) := by decide +kernel
theorem dX6_back_59 : decode cX6_back 59 = .ok (.iconst 1, 1) := by decide +kernel
theorem dX6_back_60 : decode cX6_back 60 = .ok (.invokevirtual 111, 3) := by decide +kernel
theorem dX6_back_63 : decode cX6_back 63 = .ok (.ireturn, 1) := by decide +kernel
theorem dX6_isImage_0 : decode cX6_isImage 0 = .ok (.iload_n 1, 1) := by decide +kernel
theorem dX6_isImage_1 : decode cX6_isImage 1 = .ok (.ifCond .lt 25, 3) := by decide +kernel
theorem dX6_isImage_4 : decode cX6_isImage 4 = .ok (.iload_n 1, 1) := by decide +kernel
theorem dX6_isImage_5 : decode cX6_isImage 5 = .ok (.aload_n 0, 1) := by decide +kernel
theorem dX6_isImage_6 : decode cX6_isImage 6 = .ok (.getfield 35, 3) := by decide +kernel
theorem dX6_isImage_9 : decode cX6_isImage 9 = .ok (.arraylength, 1) := by decide +kernel
theorem dX6_isImage_10 : decode cX6_isImage 10 = .ok (.if_icmp .ge 16, 3) := by decide +kernel
theorem dX6_isImage_13 : decode cX6_isImage 13 = .ok (.aload_n 0, 1) := by decide +kernel
theorem dX6_isImage_14 : decode cX6_isImage 14 = .ok (.getfield 35, 3) := by decide +kernel
theorem dX6_isImage_17 : decode cX6_isImage 17 = .ok (.iload_n 1, 1) := by decide +kernel
theorem dX6_isImage_18 : decode cX6_isImage 18 = .ok (.aaload, 1) := by decide +kernel
theorem dX6_isImage_19 : decode cX6_isImage 19 = .ok (.ifnull 7, 3) := by decide +kernel
theorem dX6_isImage_22 : decode cX6_isImage 22 = .ok (.iconst 1, 1) := by decide +kernel
theorem dX6_isImage_23 : decode cX6_isImage 23 = .ok (.goto 4, 3) := by decide +kernel
theorem dX6_isImage_26 : decode cX6_isImage 26 = .ok (.iconst 0, 1) := by decide +kernel
theorem dX6_isImage_27 : decode cX6_isImage 27 = .ok (.ireturn, 1) := by decide +kernel
theorem dX6_isWithin_0 : decode cX6_isWithin 0 = .ok (.iload_n 0, 1) := by decide +kernel
theorem dX6_isWithin_1 : decode cX6_isWithin 1 = .ok (.iload_n 1, 1) := by decide +kernel
theorem dX6_isWithin_2 : decode cX6_isWithin 2 = .ok (.if_icmp .lt 12, 3) := by decide +kernel
theorem dX6_isWithin_5 : decode cX6_isWithin 5 = .ok (.iload_n 0, 1) := by decide +kernel
theorem dX6_isWithin_6 : decode cX6_isWithin 6 = .ok (.iload_n 2, 1) := by decide +kernel
theorem dX6_isWithin_7 : decode cX6_isWithin 7 = .ok (.if_icmp .gt 7, 3) := by decide +kernel
theorem dX6_isWithin_10 : decode cX6_isWithin 10 = .ok (.iconst 1, 1) := by decide +kernel
theorem dX6_isWithin_11 : decode cX6_isWithin 11 = .ok (.goto 4, 3) := by decide +kernel
theorem dX6_isWithin_14 : decode cX6_isWithin 14 = .ok (.iconst 0, 1) := by decide +kernel
theorem dX6_isWithin_15 : decode cX6_isWithin 15 = .ok (.ireturn, 1) := by decide +kernel
theorem dX6_isSort_0 : decode cX6_isSort 0 = .ok (.iload_n 0, 1) := by decide +kernel
theorem dX6_isSort_1 : decode cX6_isSort 1 = .ok (.iconst 0, 1) := by decide +kernel
theorem dX6_isSort_2 : decode cX6_isSort 2 = .ok (.iconst 3, 1) := by decide +kernel
theorem dX6_isSort_3 : decode cX6_isSort 3 = .ok (.invokestatic 67, 3) := by decide +kernel
theorem dX6_isSort_6 : decode cX6_isSort 6 = .ok (.ireturn, 1) := by decide +kernel
theorem dX6_isBlock_0 : decode cX6_isBlock 0 = .ok (.iload_n 0, 1) := by decide +kernel
theorem dX6_isBlock_1 : decode cX6_isBlock 1 = .ok (.iconst 0, 1) := by decide +kernel
theorem dX6_isBlock_2 : decode cX6_isBlock 2 = .ok (.iconst 4, 1) := by decide +kernel
theorem dX6_isBlock_3 : decode cX6_isBlock 3 = .ok (.invokestatic 67, 3) := by decide +kernel
theorem dX6_isBlock_6 : decode cX6_isBlock 6 = .ok (.ireturn, 1) := by decide +kernel
theorem dX6_lengthOf_0 : decode cX6_lengthOf 0 = .ok (.bipush 40, 2) := by decide +kernel
theorem dX6_lengthOf_2 : decode cX6_lengthOf 2 = .ok (.bipush 20, 2) := by decide +kernel
theorem dX6_lengthOf_4 : decode cX6_lengthOf 4 = .ok (.iload_n 0, 1) := by decide +kernel
theorem dX6_lengthOf_5 : decode cX6_lengthOf 5 = .ok (.imul, 1) := by decide +kernel
theorem dX6_lengthOf_6 : decode cX6_lengthOf 6 = .ok (.iadd, 1) := by decide +kernel
theorem dX6_lengthOf_7 : decode cX6_lengthOf 7 = .ok (.ireturn, 1) := by decide +kernel
theorem dX6_headerCheck_0 : decode cX6_headerCheck 0 = .ok (.iconst 3, 1) := by decide +kernel
theorem dX6_headerCheck_1 : decode cX6_headerCheck 1 = .ok (.iload_n 0, 1) := by decide +kernel
theorem dX6_headerCheck_2 : decode cX6_headerCheck 2 = .ok (.imul, 1) := by decide +kernel
theorem dX6_headerCheck_3 : decode cX6_headerCheck 3 = .ok (.iconst 5, 1) := by decide +kernel
theorem dX6_headerCheck_4 : decode cX6_headerCheck 4 = .ok (.iload_n 1, 1) := by decide +kernel
theorem dX6_headerCheck_5 : decode cX6_headerCheck 5 = .ok (.imul, 1) := by decide +kernel
theorem dX6_headerCheck_6 : decode cX6_headerCheck 6 = .ok (.iadd, 1) := by decide +kernel
theorem dX6_headerCheck_7 : decode cX6_headerCheck 7 = .ok (.bipush 7, 2) := by decide +kernel
theorem dX6_headerCheck_9 : decode cX6_headerCheck 9 = .ok (.iload_n 2, 1) := by decide +kernel
theorem dX6_headerCheck_10 : decode cX6_headerCheck 10 = .ok (.imul, 1) := by decide +kernel
theorem dX6_headerCheck_11 : decode cX6_headerCheck 11 = .ok (.iadd, 1) := by decide +kernel
theorem dX6_headerCheck_12 : decode cX6_headerCheck 12 = .ok (.bipush 11, 2) := by decide +kernel
theorem dX6_headerCheck_14 : decode cX6_headerCheck 14 = .ok (.iload_n 3, 1) := by decide +kernel
theorem dX6_headerCheck_15 : decode cX6_headerCheck 15 = .ok (.imul, 1) := by decide +kernel
theorem dX6_headerCheck_16 : decode cX6_headerCheck 16 = .ok (.iadd, 1) := by decide +kernel
theorem dX6_headerCheck_17 : decode cX6_headerCheck 17 = .ok (.bipush 13, 2) := by decide +kernel
theorem dX6_headerCheck_19 : decode cX6_headerCheck 19 = .ok (.iload 4, 2) := by decide +kernel
theorem dX6_headerCheck_21 : decode cX6_headerCheck 21 = .ok (.imul, 1) := by decide +kernel
theorem dX6_headerCheck_22 : decode cX6_headerCheck 22 = .ok (.iadd, 1) := by decide +kernel
theorem dX6_headerCheck_23 : decode cX6_headerCheck 23 = .ok (.iconst 1, 1) := by decide +kernel
theorem dX6_headerCheck_24 : decode cX6_headerCheck 24 = .ok (.iadd, 1) := by decide +kernel
theorem dX6_headerCheck_25 : decode cX6_headerCheck 25 = .ok (.ldc 214, 2) := by decide +kernel
theorem dX6_headerCheck_27 : decode cX6_headerCheck 27 = .ok (.irem, 1) := by decide +kernel
theorem dX6_headerCheck_28 : decode cX6_headerCheck 28 = .ok (.ireturn, 1) := by decide +kernel
theorem dX6_recordCheck_0 : decode cX6_recordCheck 0 = .ok (.iconst 3, 1) := by decide +kernel
theorem dX6_recordCheck_1 : decode cX6_recordCheck 1 = .ok (.iload_n 0, 1) := by decide +kernel
theorem dX6_recordCheck_2 : decode cX6_recordCheck 2 = .ok (.imul, 1) := by decide +kernel
theorem dX6_recordCheck_3 : decode cX6_recordCheck 3 = .ok (.iconst 5, 1) := by decide +kernel
theorem dX6_recordCheck_4 : decode cX6_recordCheck 4 = .ok (.iload_n 1, 1) := by decide +kernel
theorem dX6_recordCheck_5 : decode cX6_recordCheck 5 = .ok (.imul, 1) := by decide +kernel
theorem dX6_recordCheck_6 : decode cX6_recordCheck 6 = .ok (.iadd, 1) := by decide +kernel
theorem dX6_recordCheck_7 : decode cX6_recordCheck 7 = .ok (.bipush 7, 2) := by decide +kernel
theorem dX6_recordCheck_9 : decode cX6_recordCheck 9 = .ok (.iload_n 2, 1) := by decide +kernel
theorem dX6_recordCheck_10 : decode cX6_recordCheck 10 = .ok (.imul, 1) := by decide +kernel
theorem dX6_recordCheck_11 : decode cX6_recordCheck 11 = .ok (.iadd, 1) := by decide +kernel
theorem dX6_recordCheck_12 : decode cX6_recordCheck 12 = .ok (.bipush 11, 2) := by decide +kernel
theorem dX6_recordCheck_14 : decode cX6_recordCheck 14 = .ok (.iload_n 3, 1) := by decide +kernel
theorem dX6_recordCheck_15 : decode cX6_recordCheck 15 = .ok (.imul, 1) := by decide +kernel
theorem dX6_recordCheck_16 : decode cX6_recordCheck 16 = .ok (.iadd, 1) := by decide +kernel
theorem dX6_recordCheck_17 : decode cX6_recordCheck 17 = .ok (.iconst 2, 1) := by decide +kernel
theorem dX6_recordCheck_18 : decode cX6_recordCheck 18 = .ok (.iadd, 1) := by decide +kernel
theorem dX6_recordCheck_19 : decode cX6_recordCheck 19 = .ok (.ldc 214, 2) := by decide +kernel
theorem dX6_recordCheck_21 : decode cX6_recordCheck 21 = .ok (.irem, 1) := by decide +kernel
theorem dX6_recordCheck_22 : decode cX6_recordCheck 22 = .ok (.ireturn, 1) := by decide +kernel
